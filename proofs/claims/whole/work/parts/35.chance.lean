/-! Seer: chance, years -/
def kx_bit (x : Int32) (i : Nat) : Bool := decide (¬ (x &&& (1 <<< (nI i &&& 31))) = 0)
def kx_wt (H : Nat → Bool) (o : Int32) : Nat → Int32
  | 0 => 1
  | m + 1 => kx_wt H o m * (if H m = true then o else 10 - o)
/-- shakes in odd heats -/
def kx_dh (F : Int32 → Int32 → Int32 → Int32 → Int32) (k : Nat) (cr : Int32) (H : Nat → Bool) (T : Nat) (sh : Nat → Int32) : Nat → (Nat → Int32)
  | 0 => sh
  | m + 1 => kx_rip F k cr (if H m = true then 5 else 0) (nI (T + m)) (kx_dh F k cr H T sh m) k
def kx_ml (W : Nat → Int32) (S : Nat → Bool) : Nat → Int32
  | 0 => 0
  | m + 1 => if 0 < W m ∧ S m = true then kx_ml W S m + W m else kx_ml W S m
def kx_ten (a : Int32) : Nat → Int32
  | 0 => a
  | m + 1 => kx_ten a m * 10
theorem ks_dh {F : Int32 → Int32 → Int32 → Int32 → Int32} {k : Nat} {cr : Int32} {H : Nat → Bool} {T : Nat} {sh : Nat → Int32} (hk : k ≤ 12) (hF : ∀ x0 x1 x2 x3, ∃ v, v ≤ 99 ∧ F x0 x1 x2 x3 = nI v) (hsh : ks sh) : ∀ m, ks (kx_dh F k cr H T sh m)
  | 0 => hsh
  | m + 1 => ks_rip hk (Nat.le_refl _) hF (ks_dh hk hF hsh m)
theorem ck_weightOf {d n sl : Nat} {es : ax_H} (h o : Int32) {b : Nat} (hb : b ≤ 6) {Q : Option Value → ax_H → Prop} (hQ : Q (some (.int (kx_wt (kx_bit h) o b))) es) : ax_Mt d 1045 [.int h, .int (nI b), .int o] n sl es Q := by
  refine ax_Mt_go (m := ax_m_8_21) (ls := [some (.int h), some (.int (nI b)), some (.int o), none, none]) rfl ax_b_1045_0 (Nat.le_of_ble_eq_true rfl) rfl ?_
  simp only [ax_W_cons, ax_I, ax_cmp, ax_ii, ax_ll, ax_li, ax_st1, ax_st2, ax_kl, ax_k2, ax_fit, ax_rtok, List.getElem?_cons_zero, List.getElem?_cons_succ, List.length_cons, List.length_nil, List.set_cons_zero, List.set_cons_succ, Nat.reduceAdd, Nat.reduceDiv, Nat.reduceMod, Nat.reduceMul, Nat.reduceLT, Nat.reduceLeDiff, Int32.reduceOfInt, Int64.reduceOfInt, true_and, and_true, and_self, true_or, or_true, false_implies, true_implies, not_false_eq_true, not_true_eq_false, Value.category, Nat.reduceEqDiff, Option.toList, List.cons_append, List.nil_append, List.drop_succ_cons, List.drop_zero, ax_qq_eq, ax_t_1045]
  rw [ax_n_1045_5]
  refine kx_loop (k := b) (I := fun c => ax_W (d) n sl 1045 [(2, .iload 4), (1, .iload 1), (3, .if_icmp .ge 37), (1, .iload 3), (1, .iload 0), (1, .iconst 1), (2, .iload 4), (1, .ishl), (1, .iand), (3, .ifCond .eq 25), (1, .iload 2), (3, .goto 29)] 5 [some (.int h), some (.int (nI b)), some (.int o), some (.int (kx_wt (kx_bit h) o c)), some (.int (nI c))] [] n sl es (ax_qq n sl Q)) ?_ ?_
  · have e0 := kx_nn (k := b) (by omega)
    simp only [ax_W_cons, ax_I, ax_cmp, ax_ii, ax_ll, ax_li, ax_st1, ax_st2, ax_kl, ax_k2, ax_fit, ax_rtok, List.getElem?_cons_zero, List.getElem?_cons_succ, List.length_cons, List.length_nil, List.set_cons_zero, List.set_cons_succ, Nat.reduceAdd, Nat.reduceDiv, Nat.reduceMod, Nat.reduceMul, Nat.reduceLT, Nat.reduceLeDiff, Int32.reduceOfInt, Int64.reduceOfInt, true_and, and_true, and_self, true_or, or_true, false_implies, true_implies, not_false_eq_true, not_true_eq_false, Value.category, Nat.reduceEqDiff, Option.toList, List.cons_append, List.nil_append, List.drop_succ_cons, List.drop_zero, ax_qq_eq, ax_t_1045, ax_j_1045_37, ax_n_1045_37, e0]
    exact hQ
  · intro c hc ih
    obtain ⟨e1, e2, e3, e4⟩ := kx_ix hc hb (by decide)
    rw [kx_wt] at ih
    simp only [ax_W_cons, ax_I, ax_cmp, ax_ii, ax_ll, ax_li, ax_st1, ax_st2, ax_kl, ax_k2, ax_fit, ax_rtok, List.getElem?_cons_zero, List.getElem?_cons_succ, List.length_cons, List.length_nil, List.set_cons_zero, List.set_cons_succ, Nat.reduceAdd, Nat.reduceDiv, Nat.reduceMod, Nat.reduceMul, Nat.reduceLT, Nat.reduceLeDiff, Int32.reduceOfInt, Int64.reduceOfInt, true_and, and_true, and_self, true_or, or_true, false_implies, true_implies, not_false_eq_true, not_true_eq_false, Value.category, Nat.reduceEqDiff, Option.toList, List.cons_append, List.nil_append, List.drop_succ_cons, List.drop_zero, ax_qq_eq, ax_t_1045, ax_j_1045_25, ax_n_1045_25, ax_j_1045_29, ax_n_1045_29, e1, e4]
    simp only [ax_j_1045_5]
    refine ⟨fun hz => ?_, fun hz => ?_⟩
    · rw [if_neg (by simp [kx_bit, hz])] at ih
      exact ih
    · rw [if_pos (by simp [kx_bit, hz])] at ih
      exact ih
section KS
variable {d n sl k p hc : Nat} {es : ax_H} {kd pl0 ht hs : Nat → Int32} {F1 F2 : Int32 → Int32 → Int32 → Int32 → Int32} {T : Nat} {cr : Int32} {sh pl dn : Nat → Int32}
theorem ck_shakesInHeats (hS : kSe es n F1) (hW : kW es n k p hc kd pl0 ht hs F1 F2 T cr sh pl dn) {c b : Nat} (hc2 : c < 12) (hb6 : b ≤ 6) (h : Int32) {Q : Option Value → ax_H → Prop} (hQ : ∀ es', kSe es' n F1 → ksf es es' → Q (some (.int (kx_b (decide (0 < kx_dh F1 k cr (kx_bit h) T sh b c))))) es') : ax_Mt (d + 5) 1046 [.ref 149, .int (nI c), .int (nI b), .int h] n sl es Q := by
  obtain ⟨hal, hk, hp, hhs, hsh, hpl, hT, hC, hb⟩ := id hW
  obtain ⟨dr, h149⟩ := hS.2.1.1
  have e2 : vp_in (nI c) 12 := nI_in hc2 (by decide)
  have e3 : (nI c).toNatClampNeg = c := nI_clamp (by omega)
  refine ax_Mt_go (m := ax_m_8_22) (ls := [some (.ref 149), some (.int (nI c)), some (.int (nI b)), some (.int h), none]) rfl ax_b_1046_0 (Nat.le_of_ble_eq_true rfl) rfl ?_
  simp only [ax_W_cons, ax_I, ax_cmp, ax_ii, ax_ll, ax_li, ax_st1, ax_st2, ax_kl, ax_k2, ax_fit, ax_rtok, List.getElem?_cons_zero, List.getElem?_cons_succ, List.length_cons, List.length_nil, List.set_cons_zero, List.set_cons_succ, Nat.reduceAdd, Nat.reduceDiv, Nat.reduceMod, Nat.reduceMul, Nat.reduceLT, Nat.reduceLeDiff, Int32.reduceOfInt, Int64.reduceOfInt, true_and, and_true, and_self, true_or, or_true, false_implies, true_implies, not_false_eq_true, not_true_eq_false, Value.category, Nat.reduceEqDiff, Option.toList, List.cons_append, List.nil_append, List.drop_succ_cons, List.drop_zero, ax_qq_eq, ax_t_1046, h149, hal]
  refine ax_inv_of (Nat.le_of_ble_eq_true rfl) (Nat.le_of_ble_eq_true rfl) (fun _ => kSe_rcv hal hS _) (fun h => absurd h (by decide)) (Nat.le_refl _) (Nat.le_refl _) (ax_Mt_mono (cs_copyW (by omega) hS hW) ?_)
  rintro r es2 ⟨rfl, m1, m2⟩
  simp only [ax_W_cons, ax_I, ax_cmp, ax_ii, ax_ll, ax_li, ax_st1, ax_st2, ax_kl, ax_k2, ax_fit, ax_rtok, List.getElem?_cons_zero, List.getElem?_cons_succ, List.length_cons, List.length_nil, List.set_cons_zero, List.set_cons_succ, Nat.reduceAdd, Nat.reduceDiv, Nat.reduceMod, Nat.reduceMul, Nat.reduceLT, Nat.reduceLeDiff, Int32.reduceOfInt, Int64.reduceOfInt, true_and, and_true, and_self, true_or, or_true, false_implies, true_implies, not_false_eq_true, not_true_eq_false, Value.category, Nat.reduceEqDiff, Option.toList, List.cons_append, List.nil_append, List.drop_succ_cons, List.drop_zero, ax_qq_eq, ax_t_1046]
  rw [ax_n_1046_14]
  have L := kx_loop (k := b) (I := fun m => ∀ es1, kT es1 n F1 k p (T + m) cr (kx_dh F1 k cr (kx_bit h) T sh m) pl dn → ksf es es1 → ax_W (d + 5) n sl 1046 [(2, .iload 4), (1, .iload 2), (3, .if_icmp .ge 51), (1, .aload 0), (3, .getfield 2050), (1, .aload 0), (3, .getfield 2062), (1, .iload 3), (1, .iconst 1), (2, .iload 4), (1, .ishl), (1, .iand), (3, .ifCond .eq 41), (1, .iconst 5), (3, .goto 42)] 14 [some (.ref 149), some (.int (nI c)), some (.int (nI b)), some (.int h), some (.int (nI m))] [] n sl es1 (ax_qq n sl Q)) ?_ ?_
  · exact L es2 m1 m2
  · intro es1 i1 i2
    have e0 := kx_nn (k := b) (by omega)
    obtain ⟨dr1, w149⟩ := i1.2.1.1
    have y0 := i1.2.2.2.1
    have y1 := i1.2.2.2.2.1
    have hQ := hQ es1 (kT_kSe i1) i2
    simp only [ax_W_cons, ax_I, ax_cmp, ax_ii, ax_ll, ax_li, ax_st1, ax_st2, ax_kl, ax_k2, ax_fit, ax_rtok, List.getElem?_cons_zero, List.getElem?_cons_succ, List.length_cons, List.length_nil, List.set_cons_zero, List.set_cons_succ, Nat.reduceAdd, Nat.reduceDiv, Nat.reduceMod, Nat.reduceMul, Nat.reduceLT, Nat.reduceLeDiff, Int32.reduceOfInt, Int64.reduceOfInt, true_and, and_true, and_self, true_or, or_true, false_implies, true_implies, not_false_eq_true, not_true_eq_false, Value.category, Nat.reduceEqDiff, Option.toList, List.cons_append, List.nil_append, List.drop_succ_cons, List.drop_zero, ax_qq_eq, ax_t_1046, ax_j_1046_51, ax_n_1046_51, ax_j_1046_67, ax_n_1046_67, ax_j_1046_68, ax_n_1046_68, w149, y0, y1, kb_o, kb_a, hal, e0, e2, e3]
    refine ⟨fun hle => ?_, fun hle => ?_⟩
    · have hle : ¬ (0 : Int32) < kx_dh F1 k cr (kx_bit h) T sh b c := by rw [kx_nlt]; exact hle
      simp only [hle, decide_false, kx_b] at hQ
      exact hQ
    · rw [kx_nle] at hle
      simp only [hle, decide_true, kx_b] at hQ
      exact hQ
  · intro m hm ih es1 i1 i2
    obtain ⟨e1, -, -, e4⟩ := kx_ix hm hb6 (by decide)
    obtain ⟨dr1, w149⟩ := i1.2.1.1
    have key : ∀ hh : Nat, hh ≤ 5 → (if kx_bit h m = true then (5 : Int32) else 0) = nI hh → ax_Mt (d + 4) 644 [.ref 146, .ref 150, .int (nI hh)] n sl es1 (fun r es' => ax_W (d + 5) n sl 1046 [(3, .iinc 4 1), (3, .goto 14)] 45 [some (.ref 149), some (.int (nI c)), some (.int (nI b)), some (.int h), some (.int (nI m))] r.toList n sl es' (ax_qq n sl Q)) := by
      intro hh hh5 eh
      obtain ⟨hR1, hTo1, h3⟩ := id i1
      refine ax_Mt_mono (ck_driftInHeat (by omega) hal hk.2 kap150 (by omega) hh5 (ks_dh hk.2 (kC_F hC) hsh m) (kC_sf hC i2) hR1 h3) ?_
      rintro r es3 ⟨rfl, n1, n2, n3⟩
      simp only [ax_W_cons, ax_I, ax_cmp, ax_ii, ax_ll, ax_li, ax_st1, ax_st2, ax_kl, ax_k2, ax_fit, ax_rtok, List.getElem?_cons_zero, List.getElem?_cons_succ, List.length_cons, List.length_nil, List.set_cons_zero, List.set_cons_succ, Nat.reduceAdd, Nat.reduceDiv, Nat.reduceMod, Nat.reduceMul, Nat.reduceLT, Nat.reduceLeDiff, Int32.reduceOfInt, Int64.reduceOfInt, true_and, and_true, and_self, true_or, or_true, false_implies, true_implies, not_false_eq_true, not_true_eq_false, Value.category, Nat.reduceEqDiff, Option.toList, List.cons_append, List.nil_append, List.drop_succ_cons, List.drop_zero, ax_qq_eq, ax_t_1046, e4]
      rw [ax_j_1046_14]
      rw [← eh] at n2
      exact ih es3 ⟨n1, kTo_fr hTo1 (fun j hj => n3 j (by omega)), n2⟩ (ksf_trans i2 (kfr_ksf (Or.inl rfl) n3))
    simp only [ax_W_cons, ax_I, ax_cmp, ax_ii, ax_ll, ax_li, ax_st1, ax_st2, ax_kl, ax_k2, ax_fit, ax_rtok, List.getElem?_cons_zero, List.getElem?_cons_succ, List.length_cons, List.length_nil, List.set_cons_zero, List.set_cons_succ, Nat.reduceAdd, Nat.reduceDiv, Nat.reduceMod, Nat.reduceMul, Nat.reduceLT, Nat.reduceLeDiff, Int32.reduceOfInt, Int64.reduceOfInt, true_and, and_true, and_self, true_or, or_true, false_implies, true_implies, not_false_eq_true, not_true_eq_false, Value.category, Nat.reduceEqDiff, Option.toList, List.cons_append, List.nil_append, List.drop_succ_cons, List.drop_zero, ax_qq_eq, ax_t_1046, ax_j_1046_41, ax_n_1046_41, ax_j_1046_42, ax_n_1046_42, w149, hal, e1]
    refine ⟨fun hz => ?_, fun hz => ?_⟩
    · refine ax_inv_of (Nat.le_of_ble_eq_true rfl) (Nat.le_of_ble_eq_true rfl) (fun _ => kR_rcv hal i1.1 _) (fun h => absurd h (by decide)) (Nat.le_refl _) (Nat.le_refl _) (ax_Mt_mono (key 0 (by omega) (by rw [if_neg (by simp [kx_bit, hz])]; rfl)) ?_)
      intro r es3 h9
      simp only [ax_W_cons, ax_I, ax_cmp, ax_ii, ax_ll, ax_li, ax_st1, ax_st2, ax_kl, ax_k2, ax_fit, ax_rtok, List.getElem?_cons_zero, List.getElem?_cons_succ, List.length_cons, List.length_nil, List.set_cons_zero, List.set_cons_succ, Nat.reduceAdd, Nat.reduceDiv, Nat.reduceMod, Nat.reduceMul, Nat.reduceLT, Nat.reduceLeDiff, Int32.reduceOfInt, Int64.reduceOfInt, true_and, and_true, and_self, true_or, or_true, false_implies, true_implies, not_false_eq_true, not_true_eq_false, Value.category, Nat.reduceEqDiff, Option.toList, List.cons_append, List.nil_append, List.drop_succ_cons, List.drop_zero, ax_qq_eq, ax_t_1046] at h9 ⊢
      rw [List.append_nil]
      exact h9
    · refine ax_inv_of (Nat.le_of_ble_eq_true rfl) (Nat.le_of_ble_eq_true rfl) (fun _ => kR_rcv hal i1.1 _) (fun h => absurd h (by decide)) (Nat.le_refl _) (Nat.le_refl _) (ax_Mt_mono (key 5 (by omega) (by rw [if_pos (by simp [kx_bit, hz])]; rfl)) ?_)
      intro r es3 h9
      simp only [ax_W_cons, ax_I, ax_cmp, ax_ii, ax_ll, ax_li, ax_st1, ax_st2, ax_kl, ax_k2, ax_fit, ax_rtok, List.getElem?_cons_zero, List.getElem?_cons_succ, List.length_cons, List.length_nil, List.set_cons_zero, List.set_cons_succ, Nat.reduceAdd, Nat.reduceDiv, Nat.reduceMod, Nat.reduceMul, Nat.reduceLT, Nat.reduceLeDiff, Int32.reduceOfInt, Int64.reduceOfInt, true_and, and_true, and_self, true_or, or_true, false_implies, true_implies, not_false_eq_true, not_true_eq_false, Value.category, Nat.reduceEqDiff, Option.toList, List.cons_append, List.nil_append, List.drop_succ_cons, List.drop_zero, ax_qq_eq, ax_t_1046] at h9 ⊢
      rw [List.append_nil]
      exact h9
theorem ck_millionths (hS : kSe es n F1) (hW : kW es n k p hc kd pl0 ht hs F1 F2 T cr sh pl dn) {c b : Nat} (hc2 : c < 12) (hb6 : b ≤ 6) (o : Int32) {Q : Option Value → ax_H → Prop} (hQ : ∀ es', kSe es' n F1 → ksf es es' → Q (some (.int (kx_ten (kx_ml (fun x => kx_wt (kx_bit (nI x)) o b) (fun x => decide (0 < kx_dh F1 k cr (kx_bit (nI x)) T sh b c)) (2 ^ b)) (6 - b)))) es') : ax_Mt (d + 6) 1044 [.ref 149, .int (nI c), .int (nI b), .int o] n sl es Q := by
  obtain ⟨hal, hk, hp, hhs, hsh, hpl, hT, hC, hb⟩ := id hW
  have hpw : 2 ^ b ≤ 64 := Nat.pow_le_pow_right (n := 2) (by decide) hb6
  have e1b : (1 : Int32) <<< (nI b &&& 31) = nI (2 ^ b) := by
    have : ∀ b : Fin 7, (1 : Int32) <<< (nI b.val &&& 31) = nI (2 ^ b.val) := by decide +kernel
    exact this ⟨b, by omega⟩
  refine ax_Mt_go (m := ax_m_8_20) (ls := [some (.ref 149), some (.int (nI c)), some (.int (nI b)), some (.int o), none, none, none]) rfl ax_b_1044_0 (Nat.le_of_ble_eq_true rfl) rfl ?_
  simp only [ax_W_cons, ax_I, ax_cmp, ax_ii, ax_ll, ax_li, ax_st1, ax_st2, ax_kl, ax_k2, ax_fit, ax_rtok, List.getElem?_cons_zero, List.getElem?_cons_succ, List.length_cons, List.length_nil, List.set_cons_zero, List.set_cons_succ, Nat.reduceAdd, Nat.reduceDiv, Nat.reduceMod, Nat.reduceMul, Nat.reduceLT, Nat.reduceLeDiff, Int32.reduceOfInt, Int64.reduceOfInt, true_and, and_true, and_self, true_or, or_true, false_implies, true_implies, not_false_eq_true, not_true_eq_false, Value.category, Nat.reduceEqDiff, Option.toList, List.cons_append, List.nil_append, List.drop_succ_cons, List.drop_zero, ax_qq_eq, ax_t_1044]
  rw [ax_n_1044_6]
  generalize hWt : (fun x => kx_wt (kx_bit (nI x)) o b) = W at hQ
  generalize hSt : (fun x => decide (0 < kx_dh F1 k cr (kx_bit (nI x)) T sh b c)) = S at hQ
  have L := kx_loop (k := 2 ^ b) (I := fun x => ∀ v6 es1, kSe es1 n F1 → ksf es es1 → ax_W (d + 6) n sl 1044 [(2, .iload 5), (1, .iconst 1), (1, .iload 2), (1, .ishl), (3, .if_icmp .ge 52), (2, .iload 5), (1, .iload 2), (1, .iload 3), (3, .invokeinterface 1045 12), (2, .istore 6), (2, .iload 6), (3, .ifCond .le 46), (1, .aload 0), (1, .iload 1), (1, .iload 2), (2, .iload 5), (3, .invokeinterface 1046 17), (3, .ifCond .eq 46), (2, .iload 4), (2, .iload 6), (1, .iadd), (2, .istore 4)] 6 [some (.ref 149), some (.int (nI c)), some (.int (nI b)), some (.int o), some (.int (kx_ml W S x)), some (.int (nI x)), v6] [] n sl es1 (ax_qq n sl Q)) ?_ ?_
  · exact L none es hS (ksf_rf es)
  · intro v6 es1 i1 i2
    have e0 := kx_nn (k := 2 ^ b) (by omega)
    simp only [ax_W_cons, ax_I, ax_cmp, ax_ii, ax_ll, ax_li, ax_st1, ax_st2, ax_kl, ax_k2, ax_fit, ax_rtok, List.getElem?_cons_zero, List.getElem?_cons_succ, List.length_cons, List.length_nil, List.set_cons_zero, List.set_cons_succ, Nat.reduceAdd, Nat.reduceDiv, Nat.reduceMod, Nat.reduceMul, Nat.reduceLT, Nat.reduceLeDiff, Int32.reduceOfInt, Int64.reduceOfInt, true_and, and_true, and_self, true_or, or_true, false_implies, true_implies, not_false_eq_true, not_true_eq_false, Value.category, Nat.reduceEqDiff, Option.toList, List.cons_append, List.nil_append, List.drop_succ_cons, List.drop_zero, ax_qq_eq, ax_t_1044, ax_j_1044_52, ax_n_1044_52, e1b, e0]
    rw [ax_n_1044_55]
    have L2 := kx_loop (k := 6 - b) (I := fun m => ax_W (d + 6) n sl 1044 [(2, .iload 5), (2, .iconst 6), (3, .if_icmp .ge 75), (2, .iload 4), (2, .iconst 10), (1, .imul), (2, .istore 4), (3, .iinc 5 1), (3, .goto 55)] 55 [some (.ref 149), some (.int (nI c)), some (.int (nI b)), some (.int o), some (.int (kx_ten (kx_ml W S (2 ^ b)) m)), some (.int (nI (b + m))), v6] [] n sl es1 (ax_qq n sl Q)) ?_ ?_
    · exact L2
    · have e9 : (6 : Int32) ≤ nI (b + (6 - b)) := by rw [show b + (6 - b) = 6 by omega]; decide
      simp only [ax_W_cons, ax_I, ax_cmp, ax_ii, ax_ll, ax_li, ax_st1, ax_st2, ax_kl, ax_k2, ax_fit, ax_rtok, List.getElem?_cons_zero, List.getElem?_cons_succ, List.length_cons, List.length_nil, List.set_cons_zero, List.set_cons_succ, Nat.reduceAdd, Nat.reduceDiv, Nat.reduceMod, Nat.reduceMul, Nat.reduceLT, Nat.reduceLeDiff, Int32.reduceOfInt, Int64.reduceOfInt, true_and, and_true, and_self, true_or, or_true, false_implies, true_implies, not_false_eq_true, not_true_eq_false, Value.category, Nat.reduceEqDiff, Option.toList, List.cons_append, List.nil_append, List.drop_succ_cons, List.drop_zero, ax_qq_eq, ax_t_1044, ax_j_1044_75, ax_n_1044_75, e9]
      exact hQ es1 i1 i2
    · intro m hm ih
      have e9 : ¬ (6 : Int32) ≤ nI (b + m) := nI_ge (b := 6) (by omega) (by decide)
      have e4 : nI (b + m) + 1 = nI (b + m + 1) := (nI_succ _).symm
      simp only [ax_W_cons, ax_I, ax_cmp, ax_ii, ax_ll, ax_li, ax_st1, ax_st2, ax_kl, ax_k2, ax_fit, ax_rtok, List.getElem?_cons_zero, List.getElem?_cons_succ, List.length_cons, List.length_nil, List.set_cons_zero, List.set_cons_succ, Nat.reduceAdd, Nat.reduceDiv, Nat.reduceMod, Nat.reduceMul, Nat.reduceLT, Nat.reduceLeDiff, Int32.reduceOfInt, Int64.reduceOfInt, true_and, and_true, and_self, true_or, or_true, false_implies, true_implies, not_false_eq_true, not_true_eq_false, Value.category, Nat.reduceEqDiff, Option.toList, List.cons_append, List.nil_append, List.drop_succ_cons, List.drop_zero, ax_qq_eq, ax_t_1044, e9, e4]
      rw [ax_j_1044_55]
      exact ih
  · intro x hx ih v6 es1 i1 i2
    have f1 : ¬ nI (2 ^ b) ≤ nI x := nI_ge hx (by omega)
    have f4 : nI x + 1 = nI (x + 1) := (nI_succ x).symm
    obtain ⟨dr1, w149⟩ := i1.2.1.1
    simp only [ax_W_cons, ax_I, ax_cmp, ax_ii, ax_ll, ax_li, ax_st1, ax_st2, ax_kl, ax_k2, ax_fit, ax_rtok, List.getElem?_cons_zero, List.getElem?_cons_succ, List.length_cons, List.length_nil, List.set_cons_zero, List.set_cons_succ, Nat.reduceAdd, Nat.reduceDiv, Nat.reduceMod, Nat.reduceMul, Nat.reduceLT, Nat.reduceLeDiff, Int32.reduceOfInt, Int64.reduceOfInt, true_and, and_true, and_self, true_or, or_true, false_implies, true_implies, not_false_eq_true, not_true_eq_false, Value.category, Nat.reduceEqDiff, Option.toList, List.cons_append, List.nil_append, List.drop_succ_cons, List.drop_zero, ax_qq_eq, ax_t_1044, e1b, f1]
    refine ax_inv_of (Nat.le_of_ble_eq_true rfl) (Nat.le_of_ble_eq_true rfl) (fun _ => absurd ‹_› (by decide)) (fun h => absurd h (by decide)) (Nat.le_refl _) (Nat.le_refl _) (ck_weightOf (nI x) o hb6 ?_)
    have eW : kx_wt (kx_bit (nI x)) o b = W x := by rw [← hWt]
    rw [eW]
    rw [kx_ml] at ih
    simp only [ax_W_cons, ax_I, ax_cmp, ax_ii, ax_ll, ax_li, ax_st1, ax_st2, ax_kl, ax_k2, ax_fit, ax_rtok, List.getElem?_cons_zero, List.getElem?_cons_succ, List.length_cons, List.length_nil, List.set_cons_zero, List.set_cons_succ, Nat.reduceAdd, Nat.reduceDiv, Nat.reduceMod, Nat.reduceMul, Nat.reduceLT, Nat.reduceLeDiff, Int32.reduceOfInt, Int64.reduceOfInt, true_and, and_true, and_self, true_or, or_true, false_implies, true_implies, not_false_eq_true, not_true_eq_false, Value.category, Nat.reduceEqDiff, Option.toList, List.cons_append, List.nil_append, List.drop_succ_cons, List.drop_zero, ax_qq_eq, ax_t_1044]
    refine ⟨fun hle => ?_, fun hgt => ?_⟩
    · simp only [ax_W_cons, ax_I, ax_cmp, ax_ii, ax_ll, ax_li, ax_st1, ax_st2, ax_kl, ax_k2, ax_fit, ax_rtok, List.getElem?_cons_zero, List.getElem?_cons_succ, List.length_cons, List.length_nil, List.set_cons_zero, List.set_cons_succ, Nat.reduceAdd, Nat.reduceDiv, Nat.reduceMod, Nat.reduceMul, Nat.reduceLT, Nat.reduceLeDiff, Int32.reduceOfInt, Int64.reduceOfInt, true_and, and_true, and_self, true_or, or_true, false_implies, true_implies, not_false_eq_true, not_true_eq_false, Value.category, Nat.reduceEqDiff, Option.toList, List.cons_append, List.nil_append, List.drop_succ_cons, List.drop_zero, ax_qq_eq, ax_t_1044, ax_j_1044_46, ax_n_1044_46, f4]
      rw [ax_j_1044_6]
      rw [if_neg (by intro z; exact absurd z.1 (by rw [kx_nlt]; exact hle))] at ih
      exact ih _ es1 i1 i2
    · rw [kx_nle] at hgt
      refine ax_inv_of (Nat.le_of_ble_eq_true rfl) (Nat.le_of_ble_eq_true rfl) (fun _ => ax_rcv_ok (by omega) w149) (fun h => absurd h (by decide)) (Nat.le_refl _) (Nat.le_refl _) (ck_shakesInHeats i1 (kW_sf hW i2) hc2 hb6 (nI x) ?_)
      intro es2 m1 m2
      have eS : decide (0 < kx_dh F1 k cr (kx_bit (nI x)) T sh b c) = S x := by rw [← hSt]
      rw [eS]
      simp only [ax_W_cons, ax_I, ax_cmp, ax_ii, ax_ll, ax_li, ax_st1, ax_st2, ax_kl, ax_k2, ax_fit, ax_rtok, List.getElem?_cons_zero, List.getElem?_cons_succ, List.length_cons, List.length_nil, List.set_cons_zero, List.set_cons_succ, Nat.reduceAdd, Nat.reduceDiv, Nat.reduceMod, Nat.reduceMul, Nat.reduceLT, Nat.reduceLeDiff, Int32.reduceOfInt, Int64.reduceOfInt, true_and, and_true, and_self, true_or, or_true, false_implies, true_implies, not_false_eq_true, not_true_eq_false, Value.category, Nat.reduceEqDiff, Option.toList, List.cons_append, List.nil_append, List.drop_succ_cons, List.drop_zero, ax_qq_eq, ax_t_1044, ax_j_1044_46, ax_n_1044_46, f4, kx_b0]
      simp only [ax_j_1044_6]
      refine ⟨fun hno => ?_, fun hyes => ?_⟩
      · rw [if_neg (by rw [hno]; simp)] at ih
        exact ih _ es2 m1 (ksf_trans i2 m2)
      · rw [if_pos ⟨hgt, by simpa using hyes⟩] at ih
        exact ih _ es2 m1 (ksf_trans i2 m2)
end KS
