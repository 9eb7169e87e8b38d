/-! Seer: ways, reach, swap -/
def kx_lB (fb : Nat → Int32) (z : Nat) : Nat := (kx_last fb z + 1).toNatClampNeg
/-- does a touch agree with what was felt -/
def kx_way (F : Int32 → Int32 → Int32 → Int32 → Int32) (k : Nat) (cr : Int32) (hs : Nat → Int32) (hc T : Nat) (sh fc fb fs : Nat → Int32) (z w f : Nat) : Bool := !kx_ck cr (nI w) && kx_allb (fun b => kx_allb (kx_agr1 fc fb fs (kx_dr F k cr hs hc T (kx_push sh (nI w) (nI f)) b) (nI b)) z) (kx_lB fb z)
/-- many, cells, least, most -/
def kx_w1 (P : Nat → Nat → Bool) (f : Nat) (a : Int32 × Int32 × Int32 × Int32) : Nat → Int32 × Int32 × Int32 × Int32
  | 0 => a
  | m + 1 => if P m f = true then ((kx_w1 P f a m).1 + 1, (kx_w1 P f a m).2.1 ||| (1 <<< (nI m &&& 31)), (if (kx_w1 P f a m).2.2.1 = -1 then nI f else (kx_w1 P f a m).2.2.1), nI f) else kx_w1 P f a m
def kx_w (P : Nat → Nat → Bool) (k : Nat) : Nat → Int32 × Int32 × Int32 × Int32
  | 0 => (0, 0, -1, -1)
  | m + 1 => kx_w1 P (m + 1) (kx_w P k m) k
section KS
variable {d n sl k p hc z : Nat} {es : ax_H} {kd pl0 ht hs : Nat → Int32} {F1 F2 : Int32 → Int32 → Int32 → Int32 → Int32} {T : Nat} {cr : Int32} {sh pl dn fc fb fs : Nat → Int32}
theorem ck_isWay (hd : 6 ≤ d) (hS : kSe es n F1) (hW : kW es n k p hc kd pl0 ht hs F1 F2 T cr sh pl dn) (hi : kfi z fc fb) (hF : kf es n 42 z fc fb fs) {w f : Nat} (hw : w < 12) (hf : f ≤ 20) : ax_Mt d 1036 [.ref 149, .int (nI w), .int (nI f)] n sl es (fun r es' => r = some (.int (kx_b (kx_way F1 k cr hs hc T sh fc fb fs z w f))) ∧ kSe es' n F1 ∧ ksf es es') := by
  obtain ⟨d, rfl⟩ : ∃ z, d = z + 1 := ⟨d - 1, by omega⟩
  obtain ⟨hal, hk, hp, hhs, hsh, hpl, hT, hC, hb⟩ := id hW
  obtain ⟨dr, h149⟩ := hS.2.1.1
  obtain ⟨-, v0, -⟩ := id hb
  refine ax_Mt_start (m := ax_m_8_12) (ls := [some (.ref 149), some (.int (nI w)), some (.int (nI f)), none, none]) rfl ax_b_1036_0 (Nat.le_of_ble_eq_true rfl) rfl ?_
  simp only [ax_W_cons, ax_I, ax_cmp, ax_ii, ax_ll, ax_li, ax_st1, ax_st2, ax_kl, ax_k2, ax_fit, ax_rtok, List.getElem?_cons_zero, List.getElem?_cons_succ, List.length_cons, List.length_nil, List.set_cons_zero, List.set_cons_succ, Nat.reduceAdd, Nat.reduceDiv, Nat.reduceMod, Nat.reduceMul, Nat.reduceLT, Nat.reduceLeDiff, Int32.reduceOfInt, Int64.reduceOfInt, true_and, and_true, and_self, true_or, or_true, false_implies, true_implies, not_false_eq_true, not_true_eq_false, Value.category, Nat.reduceEqDiff, Option.toList, List.cons_append, List.nil_append, List.drop_succ_cons, List.drop_zero, ax_t_1036, h149, hal]
  refine ax_inv_eq (Nat.le_of_ble_eq_true rfl) (Nat.le_of_ble_eq_true rfl) (fun _ => ax_rcv_ok (by omega) v0) (fun h => absurd h (by decide)) (Nat.le_refl _) (Nat.le_refl _) (ck_isCracked hb (nI w)) ?_
  simp only [ax_W_cons, ax_I, ax_cmp, ax_ii, ax_ll, ax_li, ax_st1, ax_st2, ax_kl, ax_k2, ax_fit, ax_rtok, List.getElem?_cons_zero, List.getElem?_cons_succ, List.length_cons, List.length_nil, List.set_cons_zero, List.set_cons_succ, Nat.reduceAdd, Nat.reduceDiv, Nat.reduceMod, Nat.reduceMul, Nat.reduceLT, Nat.reduceLeDiff, Int32.reduceOfInt, Int64.reduceOfInt, true_and, and_true, and_self, true_or, or_true, false_implies, true_implies, not_false_eq_true, not_true_eq_false, Value.category, Nat.reduceEqDiff, Option.toList, List.cons_append, List.nil_append, List.drop_succ_cons, List.drop_zero, ax_t_1036, ax_j_1036_13, ax_n_1036_13, kx_b0]
  refine ⟨fun hcr => ?_, fun hcr => ?_⟩
  · refine ax_inv_of (Nat.le_of_ble_eq_true rfl) (Nat.le_of_ble_eq_true rfl) (fun _ => ax_rcv_ok (by omega) h149) (fun h => absurd h (by decide)) (Nat.le_refl _) (Nat.le_refl _) (ax_Mt_mono (ck_tryTouch (f := f) (by omega) hS hW hw) ?_)
    rintro r es2 ⟨rfl, m1, m2⟩
    obtain ⟨dr2, q149⟩ := m1.2.1.1
    have hF2 := kf_sf (by omega) hF m2
    simp only [ax_W_cons, ax_I, ax_cmp, ax_ii, ax_ll, ax_li, ax_st1, ax_st2, ax_kl, ax_k2, ax_fit, ax_rtok, List.getElem?_cons_zero, List.getElem?_cons_succ, List.length_cons, List.length_nil, List.set_cons_zero, List.set_cons_succ, Nat.reduceAdd, Nat.reduceDiv, Nat.reduceMod, Nat.reduceMul, Nat.reduceLT, Nat.reduceLeDiff, Int32.reduceOfInt, Int64.reduceOfInt, true_and, and_true, and_self, true_or, or_true, false_implies, true_implies, not_false_eq_true, not_true_eq_false, Value.category, Nat.reduceEqDiff, Option.toList, List.cons_append, List.nil_append, List.drop_succ_cons, List.drop_zero, ax_t_1036, q149, hal]
    refine ax_inv_eq (Nat.le_of_ble_eq_true rfl) (Nat.le_of_ble_eq_true rfl) (fun _ => ax_rcv_ok (by omega) hF2.2.1) (fun h => absurd h (by decide)) (Nat.le_refl _) (Nat.le_refl _) (ck_lastBeat (by omega) hi hF2) ?_
    obtain ⟨B, hB, eB⟩ := kx_last_in hi z (Nat.le_refl _)
    have elB : kx_lB fb z = B := by
      unfold kx_lB
      rw [eB, Int32.sub_add_cancel]
      exact nI_clamp (by omega)
    rw [eB]
    simp only [ax_W_cons, ax_I, ax_cmp, ax_ii, ax_ll, ax_li, ax_st1, ax_st2, ax_kl, ax_k2, ax_fit, ax_rtok, List.getElem?_cons_zero, List.getElem?_cons_succ, List.length_cons, List.length_nil, List.set_cons_zero, List.set_cons_succ, Nat.reduceAdd, Nat.reduceDiv, Nat.reduceMod, Nat.reduceMul, Nat.reduceLT, Nat.reduceLeDiff, Int32.reduceOfInt, Int64.reduceOfInt, true_and, and_true, and_self, true_or, or_true, false_implies, true_implies, not_false_eq_true, not_true_eq_false, Value.category, Nat.reduceEqDiff, Option.toList, List.cons_append, List.nil_append, List.drop_succ_cons, List.drop_zero, ax_t_1036]
    rw [ax_n_1036_30]
    have hwy : kx_way F1 k cr hs hc T sh fc fb fs z w f = kx_allb (fun b => kx_allb (kx_agr1 fc fb fs (kx_dr F1 k cr hs hc T (kx_push sh (nI w) (nI f)) b) (nI b)) z) B := by
      unfold kx_way
      rw [elB, hcr]
      rfl
    rw [hwy]
    have L := kx_loop (k := B) (I := fun c => kx_allb (fun b => kx_allb (kx_agr1 fc fb fs (kx_dr F1 k cr hs hc T (kx_push sh (nI w) (nI f)) b) (nI b)) z) c = true → ∀ es1, kT es1 n F1 k p (T + c) cr (kx_dr F1 k cr hs hc T (kx_push sh (nI w) (nI f)) c) pl dn → ksf es es1 → ax_W (d + 1) n sl 1036 [(2, .iload 4), (1, .iload 3), (3, .if_icmp .gt 72), (1, .aload 0), (3, .getfield 2058), (1, .aload 0), (3, .getfield 2062), (2, .iload 4), (3, .invokeinterface 260 13), (3, .ifCond .ne 54), (1, .iconst 0), (1, .ireturn)] 30 [some (.ref 149), some (.int (nI w)), some (.int (nI f)), some (.int (nI B - 1)), some (.int (nI c))] [] n sl es1 (fun r n' sl' es' => n' = n ∧ sl' = sl ∧ r = some (.int (kx_b (kx_allb (fun b => kx_allb (kx_agr1 fc fb fs (kx_dr F1 k cr hs hc T (kx_push sh (nI w) (nI f)) b) (nI b)) z) B))) ∧ kSe es' n F1 ∧ ksf es es')) ?_ ?_
    · exact L rfl es2 m1 m2
    · intro ha es1 i1 i2
      have e1 : nI B - 1 < nI B := by
        have : ∀ B : Fin 14, nI B.val - 1 < nI B.val := by decide +kernel
        exact this ⟨B, by omega⟩
      simp only [ax_W_cons, ax_I, ax_cmp, ax_ii, ax_ll, ax_li, ax_st1, ax_st2, ax_kl, ax_k2, ax_fit, ax_rtok, List.getElem?_cons_zero, List.getElem?_cons_succ, List.length_cons, List.length_nil, List.set_cons_zero, List.set_cons_succ, Nat.reduceAdd, Nat.reduceDiv, Nat.reduceMod, Nat.reduceMul, Nat.reduceLT, Nat.reduceLeDiff, Int32.reduceOfInt, Int64.reduceOfInt, true_and, and_true, and_self, true_or, or_true, false_implies, true_implies, not_false_eq_true, not_true_eq_false, Value.category, Nat.reduceEqDiff, Option.toList, List.cons_append, List.nil_append, List.drop_succ_cons, List.drop_zero, ax_t_1036, ax_j_1036_72, ax_n_1036_72, e1]
      rw [ha]
      exact ⟨rfl, kT_kSe i1, i2⟩
    · intro c hc2 ih ha es1 i1 i2
      have e1 : ¬ nI B - 1 < nI c := by
        obtain ⟨B', rfl⟩ : ∃ y, B = y + 1 := ⟨B - 1, by omega⟩
        rw [nI_pred]
        exact nI_nlt (by omega) (by omega)
      have e4 : nI c + 1 = nI (c + 1) := (nI_succ c).symm
      obtain ⟨dr1, w149⟩ := i1.2.1.1
      have hF1 := kf_sf (by omega) hF i2
      simp only [ax_W_cons, ax_I, ax_cmp, ax_ii, ax_ll, ax_li, ax_st1, ax_st2, ax_kl, ax_k2, ax_fit, ax_rtok, List.getElem?_cons_zero, List.getElem?_cons_succ, List.length_cons, List.length_nil, List.set_cons_zero, List.set_cons_succ, Nat.reduceAdd, Nat.reduceDiv, Nat.reduceMod, Nat.reduceMul, Nat.reduceLT, Nat.reduceLeDiff, Int32.reduceOfInt, Int64.reduceOfInt, true_and, and_true, and_self, true_or, or_true, false_implies, true_implies, not_false_eq_true, not_true_eq_false, Value.category, Nat.reduceEqDiff, Option.toList, List.cons_append, List.nil_append, List.drop_succ_cons, List.drop_zero, ax_t_1036, w149, hal, e1]
      refine ax_inv_eq (Nat.le_of_ble_eq_true rfl) (Nat.le_of_ble_eq_true rfl) (fun _ => ax_rcv_ok (by omega) hF1.2.1) (fun h => absurd h (by decide)) (Nat.le_refl _) (Nat.le_refl _) (ck_agrees hi hF1 i1.2.2 (nI c)) ?_
      simp only [ax_W_cons, ax_I, ax_cmp, ax_ii, ax_ll, ax_li, ax_st1, ax_st2, ax_kl, ax_k2, ax_fit, ax_rtok, List.getElem?_cons_zero, List.getElem?_cons_succ, List.length_cons, List.length_nil, List.set_cons_zero, List.set_cons_succ, Nat.reduceAdd, Nat.reduceDiv, Nat.reduceMod, Nat.reduceMul, Nat.reduceLT, Nat.reduceLeDiff, Int32.reduceOfInt, Int64.reduceOfInt, true_and, and_true, and_self, true_or, or_true, false_implies, true_implies, not_false_eq_true, not_true_eq_false, Value.category, Nat.reduceEqDiff, Option.toList, List.cons_append, List.nil_append, List.drop_succ_cons, List.drop_zero, ax_t_1036, ax_j_1036_54, ax_n_1036_54, kx_b0, w149, hal]
      refine ⟨fun hy => ?_, fun hy => ?_⟩
      · refine ax_inv_of (Nat.le_of_ble_eq_true rfl) (Nat.le_of_ble_eq_true rfl) (fun _ => kR_rcv hal i1.1 _) (fun h => absurd h (by decide)) (Nat.le_refl _) (Nat.le_refl _) (ax_Mt_mono (cs_drift (m := 1) (by omega) hal hk.2 (by omega) hhs (ks_dr hk.2 (kC_F hC) (ks_push hsh hw hf) c) (kC_sf hC i2) i1) ?_)
        rintro r es3 ⟨rfl, m3, m4⟩
        simp only [ax_W_cons, ax_I, ax_cmp, ax_ii, ax_ll, ax_li, ax_st1, ax_st2, ax_kl, ax_k2, ax_fit, ax_rtok, List.getElem?_cons_zero, List.getElem?_cons_succ, List.length_cons, List.length_nil, List.set_cons_zero, List.set_cons_succ, Nat.reduceAdd, Nat.reduceDiv, Nat.reduceMod, Nat.reduceMul, Nat.reduceLT, Nat.reduceLeDiff, Int32.reduceOfInt, Int64.reduceOfInt, true_and, and_true, and_self, true_or, or_true, false_implies, true_implies, not_false_eq_true, not_true_eq_false, Value.category, Nat.reduceEqDiff, Option.toList, List.cons_append, List.nil_append, List.drop_succ_cons, List.drop_zero, ax_t_1036, e4]
        rw [ax_j_1036_30]
        refine ih ?_ es3 m3 (ksf_trans i2 m4)
        rw [kx_allb, ha]
        simpa using hy
      · simp only [Classical.not_not] at hy
        rw [kx_allb_no (c := c) hy B hc2]
        exact ⟨rfl, kT_kSe i1, i2⟩
  · have hwy : kx_way F1 k cr hs hc T sh fc fb fs z w f = false := by
      unfold kx_way
      simp at hcr
      rw [hcr]
      rfl
    rw [hwy]
    exact ⟨rfl, hS, ksf_rf es⟩
theorem ck_allWays (hd : 7 ≤ d) (hS : kSe es n F1) (hW : kW es n k p hc kd pl0 ht hs F1 F2 T cr sh pl dn) (hi : kfi z fc fb) (hF : kf es n 42 z fc fb fs) {wh : Nat} (hwh : wh ≤ 3) : ax_Mt d 1035 [.ref 149, .int (nI wh)] n sl es (fun r es' => r = some (.int (if wh = 0 then (kx_w (kx_way F1 k cr hs hc T sh fc fb fs z) k 20).1 else if wh = 1 then (kx_w (kx_way F1 k cr hs hc T sh fc fb fs z) k 20).2.1 else if wh = 2 then (kx_w (kx_way F1 k cr hs hc T sh fc fb fs z) k 20).2.2.1 else (kx_w (kx_way F1 k cr hs hc T sh fc fb fs z) k 20).2.2.2)) ∧ kSe es' n F1 ∧ ksf es es') := by
  obtain ⟨d, rfl⟩ : ∃ z, d = z + 1 := ⟨d - 1, by omega⟩
  obtain ⟨hal, hk, hp, hhs, hsh, hpl, hT, hC, hb⟩ := id hW
  refine ax_Mt_start (m := ax_m_8_11) (ls := [some (.ref 149), some (.int (nI wh)), none, none, none, none, none, none]) rfl ax_b_1035_0 (Nat.le_of_ble_eq_true rfl) rfl ?_
  simp only [ax_W_cons, ax_I, ax_cmp, ax_ii, ax_ll, ax_li, ax_st1, ax_st2, ax_kl, ax_k2, ax_fit, ax_rtok, List.getElem?_cons_zero, List.getElem?_cons_succ, List.length_cons, List.length_nil, List.set_cons_zero, List.set_cons_succ, Nat.reduceAdd, Nat.reduceDiv, Nat.reduceMod, Nat.reduceMul, Nat.reduceLT, Nat.reduceLeDiff, Int32.reduceOfInt, Int64.reduceOfInt, true_and, and_true, and_self, true_or, or_true, false_implies, true_implies, not_false_eq_true, not_true_eq_false, Value.category, Nat.reduceEqDiff, Option.toList, List.cons_append, List.nil_append, List.drop_succ_cons, List.drop_zero, ax_t_1035]
  rw [ax_n_1035_13]
  generalize hP : kx_way F1 k cr hs hc T sh fc fb fs z = P
  have L := kx_loop (k := 20) (I := fun f => ∀ v es1, kSe es1 n F1 → ksf es es1 → ax_W (d + 1) n sl 1035 [(2, .iload 6), (2, .iconst 20), (3, .if_icmp .gt 87), (1, .iconst 0), (2, .istore 7)] 13 [some (.ref 149), some (.int (nI wh)), some (.int (kx_w P k f).1), some (.int (kx_w P k f).2.1), some (.int (kx_w P k f).2.2.1), some (.int (kx_w P k f).2.2.2), some (.int (nI (f + 1))), v] [] n sl es1 (fun r n' sl' es' => n' = n ∧ sl' = sl ∧ r = some (.int (if wh = 0 then (kx_w P k 20).1 else if wh = 1 then (kx_w P k 20).2.1 else if wh = 2 then (kx_w P k 20).2.2.1 else (kx_w P k 20).2.2.2)) ∧ kSe es' n F1 ∧ ksf es es')) ?_ ?_
  · exact L none es hS (ksf_rf es)
  · intro v es1 i1 i2
    have e1 : (20 : Int32) < nI (20 + 1) := by decide
    simp only [ax_W_cons, ax_I, ax_cmp, ax_ii, ax_ll, ax_li, ax_st1, ax_st2, ax_kl, ax_k2, ax_fit, ax_rtok, List.getElem?_cons_zero, List.getElem?_cons_succ, List.length_cons, List.length_nil, List.set_cons_zero, List.set_cons_succ, Nat.reduceAdd, Nat.reduceDiv, Nat.reduceMod, Nat.reduceMul, Nat.reduceLT, Nat.reduceLeDiff, Int32.reduceOfInt, Int64.reduceOfInt, true_and, and_true, and_self, true_or, or_true, false_implies, true_implies, not_false_eq_true, not_true_eq_false, Value.category, Nat.reduceEqDiff, Option.toList, List.cons_append, List.nil_append, List.drop_succ_cons, List.drop_zero, ax_t_1035, ax_j_1035_87, ax_n_1035_87, e1]
    have h4 : wh = 0 ∨ wh = 1 ∨ wh = 2 ∨ wh = 3 := by omega
    rcases h4 with rfl | rfl | rfl | rfl
    · refine ⟨fun h => absurd h (by decide), fun _ => ?_⟩
      show ax_J ax_W _ _ _ _ 116 _ _ _ _ _ _
      simp only [ax_W_cons, ax_I, ax_cmp, ax_ii, ax_ll, ax_li, ax_st1, ax_st2, ax_kl, ax_k2, ax_fit, ax_rtok, List.getElem?_cons_zero, List.getElem?_cons_succ, List.length_cons, List.length_nil, List.set_cons_zero, List.set_cons_succ, Nat.reduceAdd, Nat.reduceDiv, Nat.reduceMod, Nat.reduceMul, Nat.reduceLT, Nat.reduceLeDiff, Int32.reduceOfInt, Int64.reduceOfInt, true_and, and_true, and_self, true_or, or_true, false_implies, true_implies, not_false_eq_true, not_true_eq_false, Value.category, Nat.reduceEqDiff, Option.toList, List.cons_append, List.nil_append, List.drop_succ_cons, List.drop_zero, ax_t_1035, ax_j_1035_116, ax_n_1035_116]
      exact ⟨rfl, i1, i2⟩
    · refine ⟨fun h => absurd h (by decide), fun _ => ?_⟩
      show ax_J ax_W _ _ _ _ 118 _ _ _ _ _ _
      simp only [ax_W_cons, ax_I, ax_cmp, ax_ii, ax_ll, ax_li, ax_st1, ax_st2, ax_kl, ax_k2, ax_fit, ax_rtok, List.getElem?_cons_zero, List.getElem?_cons_succ, List.length_cons, List.length_nil, List.set_cons_zero, List.set_cons_succ, Nat.reduceAdd, Nat.reduceDiv, Nat.reduceMod, Nat.reduceMul, Nat.reduceLT, Nat.reduceLeDiff, Int32.reduceOfInt, Int64.reduceOfInt, true_and, and_true, and_self, true_or, or_true, false_implies, true_implies, not_false_eq_true, not_true_eq_false, Value.category, Nat.reduceEqDiff, Option.toList, List.cons_append, List.nil_append, List.drop_succ_cons, List.drop_zero, ax_t_1035, ax_j_1035_118, ax_n_1035_118]
      exact ⟨rfl, i1, i2⟩
    · refine ⟨fun h => absurd h (by decide), fun _ => ?_⟩
      show ax_J ax_W _ _ _ _ 120 _ _ _ _ _ _
      simp only [ax_W_cons, ax_I, ax_cmp, ax_ii, ax_ll, ax_li, ax_st1, ax_st2, ax_kl, ax_k2, ax_fit, ax_rtok, List.getElem?_cons_zero, List.getElem?_cons_succ, List.length_cons, List.length_nil, List.set_cons_zero, List.set_cons_succ, Nat.reduceAdd, Nat.reduceDiv, Nat.reduceMod, Nat.reduceMul, Nat.reduceLT, Nat.reduceLeDiff, Int32.reduceOfInt, Int64.reduceOfInt, true_and, and_true, and_self, true_or, or_true, false_implies, true_implies, not_false_eq_true, not_true_eq_false, Value.category, Nat.reduceEqDiff, Option.toList, List.cons_append, List.nil_append, List.drop_succ_cons, List.drop_zero, ax_t_1035, ax_j_1035_120, ax_n_1035_120]
      exact ⟨rfl, i1, i2⟩
    · refine ⟨fun _ => ?_, fun h => absurd (by decide) h⟩
      simp only [ax_W_cons, ax_I, ax_cmp, ax_ii, ax_ll, ax_li, ax_st1, ax_st2, ax_kl, ax_k2, ax_fit, ax_rtok, List.getElem?_cons_zero, List.getElem?_cons_succ, List.length_cons, List.length_nil, List.set_cons_zero, List.set_cons_succ, Nat.reduceAdd, Nat.reduceDiv, Nat.reduceMod, Nat.reduceMul, Nat.reduceLT, Nat.reduceLeDiff, Int32.reduceOfInt, Int64.reduceOfInt, true_and, and_true, and_self, true_or, or_true, false_implies, true_implies, not_false_eq_true, not_true_eq_false, Value.category, Nat.reduceEqDiff, Option.toList, List.cons_append, List.nil_append, List.drop_succ_cons, List.drop_zero, ax_t_1035, ax_j_1035_123, ax_n_1035_123]
      exact ⟨rfl, i1, i2⟩
  · intro f hf ih v es1 i1 i2
    have e1 : ¬ (20 : Int32) < nI (f + 1) := nI_nlt (a := 20) (by omega) (by decide)
    have e4 : nI (f + 1) + 1 = nI (f + 1 + 1) := (nI_succ (f + 1)).symm
    simp only [ax_W_cons, ax_I, ax_cmp, ax_ii, ax_ll, ax_li, ax_st1, ax_st2, ax_kl, ax_k2, ax_fit, ax_rtok, List.getElem?_cons_zero, List.getElem?_cons_succ, List.length_cons, List.length_nil, List.set_cons_zero, List.set_cons_succ, Nat.reduceAdd, Nat.reduceDiv, Nat.reduceMod, Nat.reduceMul, Nat.reduceLT, Nat.reduceLeDiff, Int32.reduceOfInt, Int64.reduceOfInt, true_and, and_true, and_self, true_or, or_true, false_implies, true_implies, not_false_eq_true, not_true_eq_false, Value.category, Nat.reduceEqDiff, Option.toList, List.cons_append, List.nil_append, List.drop_succ_cons, List.drop_zero, ax_t_1035, e1]
    rw [ax_n_1035_23]
    have L2 := kx_loop (k := k) (I := fun w => ∀ es1, kSe es1 n F1 → ksf es es1 → ax_W (d + 1) n sl 1035 [(2, .iload 7), (1, .aload 0), (3, .getfield 2054), (3, .getfield 0), (3, .if_icmp .ge 81), (1, .aload 0), (2, .iload 7), (2, .iload 6), (3, .invokeinterface 1036 13), (3, .ifCond .eq 75), (3, .iinc 2 1), (1, .iload 3), (1, .iconst 1), (2, .iload 7), (1, .ishl), (1, .ior), (1, .istore 3), (2, .iload 4), (1, .iconst (-1)), (3, .if_icmp .ne 67), (2, .iload 6), (3, .goto 69)] 23 [some (.ref 149), some (.int (nI wh)), some (.int (kx_w1 P (f + 1) (kx_w P k f) w).1), some (.int (kx_w1 P (f + 1) (kx_w P k f) w).2.1), some (.int (kx_w1 P (f + 1) (kx_w P k f) w).2.2.1), some (.int (kx_w1 P (f + 1) (kx_w P k f) w).2.2.2), some (.int (nI (f + 1))), some (.int (nI w))] [] n sl es1 (fun r n' sl' es' => n' = n ∧ sl' = sl ∧ r = some (.int (if wh = 0 then (kx_w P k 20).1 else if wh = 1 then (kx_w P k 20).2.1 else if wh = 2 then (kx_w P k 20).2.2.1 else (kx_w P k 20).2.2.2)) ∧ kSe es' n F1 ∧ ksf es es')) ?_ ?_
    · exact L2 es1 i1 i2
    · intro es1 i1 i2
      obtain ⟨dr1, w149⟩ := i1.2.1.1
      obtain ⟨-, v0, -⟩ := kb_sf (by omega) hb i2
      have e0 := kx_nn (k := k) (by omega)
      simp only [ax_W_cons, ax_I, ax_cmp, ax_ii, ax_ll, ax_li, ax_st1, ax_st2, ax_kl, ax_k2, ax_fit, ax_rtok, List.getElem?_cons_zero, List.getElem?_cons_succ, List.length_cons, List.length_nil, List.set_cons_zero, List.set_cons_succ, Nat.reduceAdd, Nat.reduceDiv, Nat.reduceMod, Nat.reduceMul, Nat.reduceLT, Nat.reduceLeDiff, Int32.reduceOfInt, Int64.reduceOfInt, true_and, and_true, and_self, true_or, or_true, false_implies, true_implies, not_false_eq_true, not_true_eq_false, Value.category, Nat.reduceEqDiff, Option.toList, List.cons_append, List.nil_append, List.drop_succ_cons, List.drop_zero, ax_t_1035, ax_j_1035_81, ax_n_1035_81, w149, v0, kb_o, hal, e0, e4]
      rw [ax_j_1035_13]
      exact ih _ es1 i1 i2
    · intro w hw ih2 es1 i1 i2
      obtain ⟨f1, f2, f3, f4⟩ := kx_ix hw hk.2 (by decide)
      obtain ⟨dr1, w149⟩ := i1.2.1.1
      obtain ⟨-, v0, -⟩ := kb_sf (by omega) hb i2
      simp only [ax_W_cons, ax_I, ax_cmp, ax_ii, ax_ll, ax_li, ax_st1, ax_st2, ax_kl, ax_k2, ax_fit, ax_rtok, List.getElem?_cons_zero, List.getElem?_cons_succ, List.length_cons, List.length_nil, List.set_cons_zero, List.set_cons_succ, Nat.reduceAdd, Nat.reduceDiv, Nat.reduceMod, Nat.reduceMul, Nat.reduceLT, Nat.reduceLeDiff, Int32.reduceOfInt, Int64.reduceOfInt, true_and, and_true, and_self, true_or, or_true, false_implies, true_implies, not_false_eq_true, not_true_eq_false, Value.category, Nat.reduceEqDiff, Option.toList, List.cons_append, List.nil_append, List.drop_succ_cons, List.drop_zero, ax_t_1035, w149, v0, kb_o, hal, f1]
      refine ax_inv_of (Nat.le_of_ble_eq_true rfl) (Nat.le_of_ble_eq_true rfl) (fun _ => ax_rcv_ok (by omega) w149) (fun h => absurd h (by decide)) (Nat.le_refl _) (Nat.le_refl _) (ax_Mt_mono (ck_isWay (by omega) i1 (kW_sf hW i2) hi (kf_sf (by omega) hF i2) (w := w) (f := f + 1) (by omega) (by omega)) ?_)
      rintro r es2 ⟨rfl, m1, m2⟩
      rw [hP]
      have ih2 := ih2 es2 m1 (ksf_trans i2 m2)
      rw [kx_w1] at ih2
      simp only [ax_W_cons, ax_I, ax_cmp, ax_ii, ax_ll, ax_li, ax_st1, ax_st2, ax_kl, ax_k2, ax_fit, ax_rtok, List.getElem?_cons_zero, List.getElem?_cons_succ, List.length_cons, List.length_nil, List.set_cons_zero, List.set_cons_succ, Nat.reduceAdd, Nat.reduceDiv, Nat.reduceMod, Nat.reduceMul, Nat.reduceLT, Nat.reduceLeDiff, Int32.reduceOfInt, Int64.reduceOfInt, true_and, and_true, and_self, true_or, or_true, false_implies, true_implies, not_false_eq_true, not_true_eq_false, Value.category, Nat.reduceEqDiff, Option.toList, List.cons_append, List.nil_append, List.drop_succ_cons, List.drop_zero, ax_t_1035, ax_j_1035_67, ax_n_1035_67, ax_j_1035_69, ax_n_1035_69, ax_j_1035_75, ax_n_1035_75, kx_b0, f4]
      simp only [ax_j_1035_23]
      refine ⟨fun hno => ?_, fun hyes => ⟨fun h5 => ?_, fun h5 => ?_⟩⟩
      · rw [if_neg (by rw [hno]; decide)] at ih2
        exact ih2
      · rw [if_pos (by simpa using hyes), if_neg h5] at ih2
        exact ih2
      · simp only [Classical.not_not] at h5
        rw [if_pos (by simpa using hyes), if_pos h5] at ih2
        exact ih2
end KS
