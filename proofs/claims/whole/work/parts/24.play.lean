/-! Play: beats; the one court at 3, the one play at 146 -/
def kt_o (k p hc a b : Nat) (once : Int32) : ax_E := .inr (1, [.int (nI k), .int (nI p), .ref 4, .ref 5, .ref 6, .ref 7, .ref 8, .int (nI hc), .ref 9, .ref 10, .ref 13, .int once])
/-- the court that stands -/
def kC (es : ax_H) (k p hc : Nat) (kd pl ht hs : Nat → Int32) (F1 F2 : Int32 → Int32 → Int32 → Int32 → Int32) : Prop := ∃ (once : Int32) (nm : Nat → Int64) (code : Nat → Int32) (a1 b1 a2 b2 : Nat),
  es 3 = .inr (1, [.int (nI k), .int (nI p), .ref 4, .ref 5, .ref 6, .ref 7, .ref 8, .int (nI hc), .ref 9, .ref 10, .ref 13, .int once]) ∧ es 4 = .inl (0, 6, .inl kd) ∧ es 5 = .inl (0, 6, .inl pl) ∧ es 6 = .inl (0, 6, .inl ht) ∧ es 7 = .inl (3, 6, .inr (.inl nm)) ∧ es 8 = .inl (0, 12, .inl hs) ∧ es 9 = .inl (0, 1000, .inl code) ∧
  es 10 = .inr (3, [.ref 9, .ref 11, .ref 12, .int (nI a1), .int (nI b1)]) ∧ es 13 = .inr (3, [.ref 9, .ref 14, .ref 15, .int (nI a2), .int (nI b2)]) ∧ kl_ok code a1 b1 F1 ∧ kl_ok code a2 b2 F2
/-- what is kept of fades is right -/
def kF (F : Int32 → Int32 → Int32 → Int32 → Int32) (fd : Nat → Int32) : Prop := ∀ j, j < 1600 → fd j = 0 ∨ ∃ t h w v, t < 4000 ∧ h ≤ 5 ∧ w < 100 ∧ v ≤ 99 ∧ j = t % 16 * 100 + w ∧ F (nI w) (nI h) (nI t) 0 = nI v ∧ fd j = nI (128 * (t * 6 + h + 1) + v)
/-- rows that are written over at will -/
def kR (es : ax_H) (F1 : Int32 → Int32 → Int32 → Int32 → Int32) : Prop := es 146 = .inr (5, [.ref 3, .ref 147, .ref 148]) ∧ (∃ s g, es 11 = .inl (0, 32, .inl s) ∧ es 12 = .inl (0, 4, .inl g)) ∧ (∃ s g, es 14 = .inl (0, 32, .inl s) ∧ es 15 = .inl (0, 4, .inl g)) ∧ (∃ ah, es 147 = .inl (0, 12, .inl ah) ∧ kz 12 ah) ∧ ∃ fd, es 148 = .inl (0, 1600, .inl fd) ∧ kF F1 fd
section KP
variable {d n sl k p hc : Nat} {es : ax_H} {kd pl ht hs : Nat → Int32} {F1 F2 : Int32 → Int32 → Int32 → Int32 → Int32}
theorem ck_heatAt (hd : 1 ≤ d) (hal : ax_al n = 178) (hc0 : 0 < hc) (hc12 : hc ≤ 12) (hC : kC es k p hc kd pl ht hs F1 F2) {t : Nat} (ht : t < 2 ^ 31) : ax_Mt d 136 [.ref 3, .int (nI t)] n sl es (fun r es' => r = some (.int (hs (t % hc))) ∧ es' = es) := by
  obtain ⟨d, rfl⟩ : ∃ z, d = z + 1 := ⟨d - 1, by omega⟩
  obtain ⟨once, nm, code, a1, b1, a2, b2, c3, c4, c5, c6, c7, c8, c9, c10, c13, -⟩ := hC
  have e1 : ¬ nI hc ≤ 0 := nI_nle hc0 (by omega)
  have e2 : ¬ nI hc = 0 := nI_ne0 hc0 (by omega)
  have hlt := Nat.mod_lt t hc0
  have e3 : vp_in (nI (t % hc)) 12 := nI_in (by omega) (by decide)
  have e4 : (nI (t % hc)).toNatClampNeg = t % hc := nI_clamp (by omega)
  refine ax_Mt_start (m := ax_m_1_8) (ls := [some (.ref 3), some (.int (nI t))]) rfl ax_b_136_0 (Nat.le_of_ble_eq_true rfl) rfl ?_
  simp only [ax_W_cons, ax_I, ax_cmp, ax_ii, ax_ll, ax_li, ax_st1, ax_st2, ax_kl, ax_k2, ax_fit, ax_rtok, List.getElem?_cons_zero, List.getElem?_cons_succ, List.length_cons, List.length_nil, List.set_cons_zero, List.set_cons_succ, Nat.reduceAdd, Nat.reduceDiv, Nat.reduceMod, Nat.reduceMul, Nat.reduceLT, Nat.reduceLeDiff, Int32.reduceOfInt, Int64.reduceOfInt, true_and, and_true, and_self, true_or, or_true, false_implies, true_implies, not_false_eq_true, not_true_eq_false, Value.category, Nat.reduceEqDiff, Option.toList, List.cons_append, List.nil_append, List.drop_succ_cons, List.drop_zero, ax_t_136, c3, hal, e1]
  refine ax_inv_eq (Nat.le_of_ble_eq_true rfl) (Nat.le_of_ble_eq_true rfl) (fun _ => absurd ‹_› (by decide)) (fun h => absurd h (by decide)) (Nat.le_refl _) (Nat.le_refl _) (ck_floorMod d n sl _ (nI t) (nI hc) e2) ?_
  rw [kn_fm ht hc0 (by omega)]
  simp only [ax_W_cons, ax_I, ax_cmp, ax_ii, ax_ll, ax_li, ax_st1, ax_st2, ax_kl, ax_k2, ax_fit, ax_rtok, List.getElem?_cons_zero, List.getElem?_cons_succ, List.length_cons, List.length_nil, List.set_cons_zero, List.set_cons_succ, Nat.reduceAdd, Nat.reduceDiv, Nat.reduceMod, Nat.reduceMul, Nat.reduceLT, Nat.reduceLeDiff, Int32.reduceOfInt, Int64.reduceOfInt, true_and, and_true, and_self, true_or, or_true, false_implies, true_implies, not_false_eq_true, not_true_eq_false, Value.category, Nat.reduceEqDiff, Option.toList, List.cons_append, List.nil_append, List.drop_succ_cons, List.drop_zero, ax_t_136, ax_j_136_24, ax_n_136_24, c8, hal, e3, e4]
theorem kF_hit {F : Int32 → Int32 → Int32 → Int32 → Int32} {fd : Nat → Int32} (h : kF F fd) {t hh w : Nat} (ht : t < 4000) (hh5 : hh ≤ 5) (hw : w < 100) (he : fd (t % 16 * 100 + w) >>> ((7 : Int32) &&& 31) = nI (t * 6 + hh + 1)) : fd (t % 16 * 100 + w) &&& 127 = F (nI w) (nI hh) (nI t) 0 := by
  have hj : t % 16 * 100 + w < 1600 := by omega
  rcases h _ hj with h0 | ⟨t', h', w', v, b1, b2, b3, b4, b5, b6, b7⟩
  · rw [h0] at he
    have e9 : (0 : Int32) >>> ((7 : Int32) &&& 31) = nI 0 := by decide
    rw [e9] at he
    have := kn_inj (by omega) (by omega) he
    omega
  · rw [b7] at he ⊢
    have e8 : nI (128 * (t' * 6 + h' + 1) + v) >>> ((7 : Int32) &&& 31) = nI ((128 * (t' * 6 + h' + 1) + v) / 2 ^ 7) := kn_shr (k := 7) (by omega) (by decide)
    rw [e8] at he
    have h9 := kn_inj (by omega) (by omega) he
    have h10 : t' * 6 + h' + 1 = t * 6 + hh + 1 := by omega
    have h11 : t' = t ∧ h' = hh := by omega
    obtain ⟨rfl, rfl⟩ := h11
    have h12 : w' = w := by omega
    subst h12
    rw [b6]
    have e7 := fa_mask (128 * (t' * 6 + h' + 1) + v) 7
    have e6 : (127 : Int32) = nI (2 ^ 7 - 1) := rfl
    rw [e6, e7]
    congr 1
    omega
theorem kF_put {F : Int32 → Int32 → Int32 → Int32 → Int32} {fd : Nat → Int32} (h : kF F fd) {t hh w v : Nat} (ht : t < 4000) (hh5 : hh ≤ 5) (hw : w < 100) (hv : v ≤ 99) (he : F (nI w) (nI hh) (nI t) 0 = nI v) : kF F (upd fd (t % 16 * 100 + w) (nI (128 * (t * 6 + hh + 1) + v))) := by
  intro j hj
  by_cases h1 : j = t % 16 * 100 + w
  · right
    exact ⟨t, hh, w, v, ht, hh5, hw, hv, h1, he, by rw [h1]; simp [upd]⟩
  · have e1 : upd fd (t % 16 * 100 + w) (nI (128 * (t * 6 + hh + 1) + v)) j = fd j := by simp [upd, h1]
    rw [e1]
    exact h j hj
theorem ck_fadeOf (hd : 2 ≤ d) (hal : ax_al n = 178) (hC : kC es k p hc kd pl ht hs F1 F2) (hR : kR es F1) {t hh w : Nat} (ht4 : t < 4000) (hh5 : hh ≤ 5) (hw : w < 100) : ax_Mt d 646 [.ref 146, .int (nI w), .int (nI hh), .int (nI t)] n sl es (fun r es' => r = some (.int (F1 (nI w) (nI hh) (nI t) 0)) ∧ kR es' F1 ∧ ∀ j, j ≠ 11 ∧ j ≠ 12 ∧ j ≠ 148 → es' j = es j) := by
  obtain ⟨d, rfl⟩ : ∃ z, d = z + 1 := ⟨d - 1, by omega⟩
  obtain ⟨once, nm, code, a1, b1, a2, b2, c3, c4, c5, c6, c7, c8, c9, c10, c13, L1, L2⟩ := hC
  have hR' := hR
  obtain ⟨r0, ⟨s1, g1, r1, r2⟩, ⟨s2, g2, r3, r4⟩, ⟨ah, r5, r6⟩, fd, r7, r8⟩ := hR'
  have e1 : nI t * 6 + nI hh + 1 = nI (t * 6 + hh + 1) := by
    show nI t * nI 6 + nI hh + nI 1 = _
    rw [kn_mul, kn_add, kn_add]
  have e2 : nI (t % 16) * 100 + nI w = nI (t % 16 * 100 + w) := by
    show nI (t % 16) * nI 100 + nI w = _
    rw [kn_mul, kn_add]
  have e3 : ¬ nI (t % 16 * 100 + w) < 0 := nI_pos (by omega)
  have e4 : nI (t % 16 * 100 + w) < Int32.ofNat 1600 := nI_lt (b := 1600) (by omega) (by decide)
  have e5 : vp_in (nI (t % 16 * 100 + w)) 1600 := nI_in (by omega) (by decide)
  have e6 : (nI (t % 16 * 100 + w)).toNatClampNeg = t % 16 * 100 + w := nI_clamp (by omega)
  have h16 : ¬ (16 : Int32) = 0 := by decide
  refine ax_Mt_start (m := ax_m_5_6) (ls := [some (.ref 146), some (.int (nI w)), some (.int (nI hh)), some (.int (nI t)), none, none, none, none]) rfl ax_b_646_0 (Nat.le_of_ble_eq_true rfl) rfl ?_
  simp only [ax_W_cons, ax_I, ax_cmp, ax_ii, ax_ll, ax_li, ax_st1, ax_st2, ax_kl, ax_k2, ax_fit, ax_rtok, List.getElem?_cons_zero, List.getElem?_cons_succ, List.length_cons, List.length_nil, List.set_cons_zero, List.set_cons_succ, Nat.reduceAdd, Nat.reduceDiv, Nat.reduceMod, Nat.reduceMul, Nat.reduceLT, Nat.reduceLeDiff, Int32.reduceOfInt, Int64.reduceOfInt, true_and, and_true, and_self, true_or, or_true, false_implies, true_implies, not_false_eq_true, not_true_eq_false, Value.category, Nat.reduceEqDiff, Option.toList, List.cons_append, List.nil_append, List.drop_succ_cons, List.drop_zero, ax_t_646, e1]
  refine ax_inv_eq (Nat.le_of_ble_eq_true rfl) (Nat.le_of_ble_eq_true rfl) (fun _ => absurd ‹_› (by decide)) (fun h => absurd h (by decide)) (Nat.le_refl _) (Nat.le_refl _) (ck_floorMod d n sl _ (nI t) 16 h16) ?_
  have e7 : kx_fm (nI t) 16 = nI (t % 16) := kn_fm (m := 16) (by omega) (by decide) (by decide)
  rw [e7]
  simp only [ax_W_cons, ax_I, ax_cmp, ax_ii, ax_ll, ax_li, ax_st1, ax_st2, ax_kl, ax_k2, ax_fit, ax_rtok, List.getElem?_cons_zero, List.getElem?_cons_succ, List.length_cons, List.length_nil, List.set_cons_zero, List.set_cons_succ, Nat.reduceAdd, Nat.reduceDiv, Nat.reduceMod, Nat.reduceMul, Nat.reduceLT, Nat.reduceLeDiff, Int32.reduceOfInt, Int64.reduceOfInt, true_and, and_true, and_self, true_or, or_true, false_implies, true_implies, not_false_eq_true, not_true_eq_false, Value.category, Nat.reduceEqDiff, Option.toList, List.cons_append, List.nil_append, List.drop_succ_cons, List.drop_zero, ax_t_646, ax_j_646_53, ax_n_646_53, r0, r7, hal, e2, e3, e4, e5, e6]
  refine ⟨fun hne => ?_, fun hh2 => ?_⟩
  · obtain ⟨v, hv, hF⟩ := kl_ok_in L1 (nI w) (nI hh) (nI t) 0
    simp only [ax_W_cons, ax_I, ax_cmp, ax_ii, ax_ll, ax_li, ax_st1, ax_st2, ax_kl, ax_k2, ax_fit, ax_rtok, List.getElem?_cons_zero, List.getElem?_cons_succ, List.length_cons, List.length_nil, List.set_cons_zero, List.set_cons_succ, Nat.reduceAdd, Nat.reduceDiv, Nat.reduceMod, Nat.reduceMul, Nat.reduceLT, Nat.reduceLeDiff, Int32.reduceOfInt, Int64.reduceOfInt, true_and, and_true, and_self, true_or, or_true, false_implies, true_implies, not_false_eq_true, not_true_eq_false, Value.category, Nat.reduceEqDiff, Option.toList, List.cons_append, List.nil_append, List.drop_succ_cons, List.drop_zero, ax_t_646, ax_j_646_78, ax_n_646_78, r0, c3, hal]
    have hvw := ck_valueWithin (d := d) (n := n) (sl := sl) (w := 10) (cp := 9) (by omega) (by omega) (by omega) (by decide) c10 r1 r2 c9 L1.1 L1.2.1 (nI w) (nI hh) (nI t) 0
    rw [L1.2.2] at hvw
    refine ax_inv_eq (Nat.le_of_ble_eq_true rfl) (Nat.le_of_ble_eq_true rfl) (fun _ => ax_rcv_ok (by omega) c10) (fun h => absurd h (by decide)) (Nat.le_refl _) (Nat.le_refl _) (hvw) ?_
    generalize (kl_run (kl_g g1 (nI w) (nI hh) (nI t) 0) code a1 s1 (b1 - a1)).2 = s3
    generalize kl_g g1 (nI w) (nI hh) (nI t) 0 = g3
    have q0 : klw es 10 s3 g3 146 = .inr (5, [.ref 3, .ref 147, .ref 148]) := by rw [klw_ne _ _ _ (by decide)]; exact r0
    have q1 : klw es 10 s3 g3 148 = .inl (0, 1600, .inl fd) := by rw [klw_ne _ _ _ (by decide)]; exact r7
    have e8 : nI (t * 6 + hh + 1) <<< ((7 : Int32) &&& 31) ||| F1 (nI w) (nI hh) (nI t) 0 = nI (128 * (t * 6 + hh + 1) + v) := by
      rw [kn_shl7, hF]
      exact fa_or_sum (k := 7) (t * 6 + hh + 1) (by omega)
    simp only [ax_W_cons, ax_I, ax_cmp, ax_ii, ax_ll, ax_li, ax_st1, ax_st2, ax_kl, ax_k2, ax_fit, ax_rtok, List.getElem?_cons_zero, List.getElem?_cons_succ, List.length_cons, List.length_nil, List.set_cons_zero, List.set_cons_succ, Nat.reduceAdd, Nat.reduceDiv, Nat.reduceMod, Nat.reduceMul, Nat.reduceLT, Nat.reduceLeDiff, Int32.reduceOfInt, Int64.reduceOfInt, true_and, and_true, and_self, true_or, or_true, false_implies, true_implies, not_false_eq_true, not_true_eq_false, Value.category, Nat.reduceEqDiff, Option.toList, List.cons_append, List.nil_append, List.drop_succ_cons, List.drop_zero, ax_t_646, q0, q1, hal, e5, e6, e8]
    refine ⟨⟨?_, ⟨s3, g3, ?_, ?_⟩, ⟨s2, g2, ?_, ?_⟩, ⟨ah, ?_, r6⟩, _, ?_, kF_put r8 ht4 hh5 hw hv hF⟩, fun j hj => ?_⟩
    · rw [ax_up_ne _ _ (by decide)]; exact q0
    · rw [ax_up_ne _ _ (by decide)]; exact klw_1 ..
    · rw [ax_up_ne _ _ (by decide)]; exact klw_2 ..
    · rw [ax_up_ne _ _ (by decide), klw_ne _ _ _ (by decide)]; exact r3
    · rw [ax_up_ne _ _ (by decide), klw_ne _ _ _ (by decide)]; exact r4
    · rw [ax_up_ne _ _ (by decide), klw_ne _ _ _ (by decide)]; exact r5
    · exact ax_up_same ..
    · rw [ax_up_ne _ _ hj.2.2, klw_ne _ _ _ ⟨hj.1, hj.2.1⟩]
  · simp only [Classical.not_not] at hh2
    exact ⟨by rw [kF_hit r8 ht4 hh5 hw hh2], hR, fun _ _ => trivial⟩
/-- what a play with the bowl at q may change -/
def kfr (q : Nat) (es es' : ax_H) : Prop := ∀ j, (j ≠ 11 ∧ j ≠ 12 ∧ j ≠ 14 ∧ j ≠ 15 ∧ j ≠ 147 ∧ j ≠ 148 ∧ (j < q ∨ q + 3 < j)) → es' j = es j
theorem kfr_rf (q : Nat) (es : ax_H) : kfr q es es := fun _ _ => rfl
theorem kfr_trans {q : Nat} {a b c : ax_H} (h1 : kfr q a b) (h2 : kfr q b c) : kfr q a c := fun j hj => (h2 j hj).trans (h1 j hj)
/-- the bowl lies apart from the court and the play -/
def kap (q : Nat) : Prop := 15 < q ∧ (q + 3 < 146 ∨ 148 < q)
theorem kC_fr {q : Nat} {es es' : ax_H} (hq : kap q) (h : kC es k p hc kd pl ht hs F1 F2) (hf : kfr q es es') : kC es' k p hc kd pl ht hs F1 F2 := by
  obtain ⟨once, nm, code, a1, b1, a2, b2, c3, c4, c5, c6, c7, c8, c9, c10, c13, L⟩ := h
  obtain ⟨h1, h2⟩ := hq
  have e : ∀ j, j ≤ 13 → j ≠ 11 → j ≠ 12 → es' j = es j := fun j a b c => hf j (by omega)
  exact ⟨once, nm, code, a1, b1, a2, b2, by rw [e 3 (by decide) (by decide) (by decide)]; exact c3, by rw [e 4 (by decide) (by decide) (by decide)]; exact c4, by rw [e 5 (by decide) (by decide) (by decide)]; exact c5, by rw [e 6 (by decide) (by decide) (by decide)]; exact c6, by rw [e 7 (by decide) (by decide) (by decide)]; exact c7, by rw [e 8 (by decide) (by decide) (by decide)]; exact c8, by rw [e 9 (by decide) (by decide) (by decide)]; exact c9, by rw [e 10 (by decide) (by decide) (by decide)]; exact c10, by rw [e 13 (by decide) (by decide) (by decide)]; exact c13, L⟩
theorem kb_fr {q k p : Nat} {t cr : Int32} {sh pl dn : Nat → Int32} {es es' : ax_H} (h : kb es n q k p t cr sh pl dn) (hf : ∀ j, q ≤ j ∧ j ≤ q + 3 → es' j = es j) : kb es' n q k p t cr sh pl dn := by
  obtain ⟨hn, h0, h1, h2, h3, z⟩ := h
  exact ⟨hn, by rw [hf q (by omega)]; exact h0, by rw [hf (q + 1) (by omega)]; exact h1, by rw [hf (q + 2) (by omega)]; exact h2, by rw [hf (q + 3) (by omega)]; exact h3, z⟩
/-- shakes are within 0 to 99 -/
def ks (sh : Nat → Int32) : Prop := ∀ i, i < 12 → ∃ v, v ≤ 99 ∧ sh i = nI v
def kx_pv (k i : Nat) : Nat := if 0 < i then i - 1 else k - 1
def kx_nx (k i : Nat) : Nat := if i + 1 < k then i + 1 else 0
def kx_rv (F : Int32 → Int32 → Int32 → Int32 → Int32) (h t w : Int32) : Int32 := if w = 0 then 0 else kx_max 0 (w - F w h t 0)
def kx_wv (k : Nat) (sh : Nat → Int32) (i : Nat) : Int32 := (sh (kx_pv k i) + sh (kx_nx k i)) / 2
def kx_rip (F : Int32 → Int32 → Int32 → Int32 → Int32) (k : Nat) (cr h t : Int32) (sh : Nat → Int32) (m : Nat) : Nat → Int32 := fun i => if i < m ∧ kx_ck cr (nI i) = false then kx_rv F h t (kx_wv k sh i) else sh i
theorem kx_wv_in {k i : Nat} {sh : Nat → Int32} (hk : k ≤ 12) (hi : i < k) (hs : ks sh) : ∃ w, w < 100 ∧ kx_wv k sh i = nI w := by
  obtain ⟨a, ha, ea⟩ := hs (kx_pv k i) (by unfold kx_pv; split <;> omega)
  obtain ⟨b, hb, eb⟩ := hs (kx_nx k i) (by unfold kx_nx; split <;> omega)
  refine ⟨(a + b) / 2, by omega, ?_⟩
  unfold kx_wv
  rw [ea, eb, kn_add]
  exact pk_div (d := 2) (by omega) (by decide) (by decide)
theorem kx_ahead_nI {k c : Nat} (hk : k ≤ 12) (hc : c < k) : kx_ahead k (nI c) = nI (kx_pv k c) := by
  unfold kx_ahead kx_pv
  by_cases h : 0 < c
  · rw [if_pos (show (0 : Int32) < nI c from nI_lt (a := 0) h (by omega)), if_pos h]
    obtain ⟨z, rfl⟩ : ∃ z, c = z + 1 := ⟨c - 1, by omega⟩
    exact nI_pred z
  · rw [if_neg (by rw [show c = 0 by omega]; decide), if_neg h]
    obtain ⟨z, rfl⟩ : ∃ z, k = z + 1 := ⟨k - 1, by omega⟩
    exact nI_pred z
theorem ck_ripple (hd : 3 ≤ d) (hal : ax_al n = 178) {q k p : Nat} {T hh : Nat} {cr : Int32} {sh pl' dn : Nat → Int32} (hk : k ≤ 12) (hq : kap q) (hT : T < 4000) (hh5 : hh ≤ 5) (hsh : ks sh) (hC : kC es k p hc kd pl ht hs F1 F2) (hR : kR es F1) (hb : kb es n q k p (nI T) cr sh pl' dn) :
    ax_Mt d 645 [.ref 146, .ref q, .int (nI hh)] n sl es (fun r es' => r = none ∧ kR es' F1 ∧ kb es' n q k p (nI T) cr (kx_rip F1 k cr (nI hh) (nI T) sh k) pl' dn ∧ kfr q es es') := by
  obtain ⟨d, rfl⟩ : ∃ z, d = z + 1 := ⟨d - 1, by omega⟩
  have hR' := hR
  obtain ⟨r0, ⟨s1, g1, r1, r2⟩, ⟨s2, g2, r3, r4⟩, ⟨ah, r5, r6⟩, fd, r7, r8⟩ := hR'
  have hb' := hb
  obtain ⟨hn, h0, h1, h2, h3, z1, z2, z3⟩ := hb'
  rw [hal] at hn
  have hq2 := hq
  obtain ⟨ha1, ha2⟩ := hq2
  have hq0 : q < 178 := by omega
  have hq1 : q + 1 < 178 := by omega
  refine ax_Mt_start (m := ax_m_5_5) (ls := [some (.ref 146), some (.ref q), some (.int (nI hh)), none, none]) rfl ax_b_645_0 (Nat.le_of_ble_eq_true rfl) rfl ?_
  simp only [ax_W_cons, ax_I, ax_cmp, ax_ii, ax_ll, ax_li, ax_st1, ax_st2, ax_kl, ax_k2, ax_fit, ax_rtok, List.getElem?_cons_zero, List.getElem?_cons_succ, List.length_cons, List.length_nil, List.set_cons_zero, List.set_cons_succ, Nat.reduceAdd, Nat.reduceDiv, Nat.reduceMod, Nat.reduceMul, Nat.reduceLT, Nat.reduceLeDiff, Int32.reduceOfInt, Int64.reduceOfInt, true_and, and_true, and_self, true_or, or_true, false_implies, true_implies, not_false_eq_true, not_true_eq_false, Value.category, Nat.reduceEqDiff, Option.toList, List.cons_append, List.nil_append, List.drop_succ_cons, List.drop_zero, ax_t_645, ax_bi, r0, r5, h0, h1, kb_o, kb_a, hal, hq0, hq1, kx_c0, kx_c12, kx_n0, kx_n12, kx_cat0, Nat.le_refl, kz_cpy z1 r6, Nat.le_add_left]
  rw [ax_n_645_17]
  have L := kx_loop (k := k) (I := fun c => ∀ v4 es1, kR es1 F1 → es1 147 = .inl (0, 12, .inl sh) → kb es1 n q k p (nI T) cr (kx_rip F1 k cr (nI hh) (nI T) sh c) pl' dn → kfr q es es1 → ax_W (d + 1) n sl 645 [(1, .iload 3), (1, .aload 1), (3, .getfield 0), (3, .if_icmp .ge 97), (1, .aload 1), (1, .iload 3), (3, .invokeinterface 4 9), (3, .ifCond .ne 91), (1, .aload 0), (3, .getfield 1286), (1, .aload 1), (1, .iload 3), (3, .invokeinterface 15 9), (1, .iaload), (1, .aload 0), (3, .getfield 1286), (1, .aload 1), (1, .iload 3), (3, .invokeinterface 14 9), (1, .iaload), (1, .iadd), (1, .iconst 2), (1, .idiv), (2, .istore 4), (1, .aload 1), (3, .getfield 18), (1, .iload 3), (2, .iload 4), (3, .ifCond .ne 72), (1, .iconst 0), (3, .goto 90)] 17 [some (.ref 146), some (.ref q), some (.int (nI hh)), some (.int (nI c)), v4] [] n sl es1 (fun r n' sl' es' => n' = n ∧ sl' = sl ∧ r = none ∧ kR es' F1 ∧ kb es' n q k p (nI T) cr (kx_rip F1 k cr (nI hh) (nI T) sh k) pl' dn ∧ kfr q es es')) ?_ ?_
  · refine L none _ ?_ ?_ ?_ ?_
    · refine ⟨?_, ⟨s1, g1, ?_, ?_⟩, ⟨s2, g2, ?_, ?_⟩, ⟨sh, ax_up_same .., z1⟩, fd, ?_, r8⟩
      all_goals rw [ax_up_ne _ _ (by decide)]; assumption
    · exact ax_up_same ..
    · have e9 : kx_rip F1 k cr (nI hh) (nI T) sh 0 = sh := by
        funext i
        unfold kx_rip
        rw [if_neg (by omega)]
      rw [e9]
      exact kb_fr hb (fun j hj => ax_up_ne _ _ (by omega))
    · exact fun j hj => ax_up_ne _ _ hj.2.2.2.2.1
  · intro v4 es1 i1 i2 i3 i4
    have e0 := kx_nn (k := k) (by omega)
    have j0 := i3.2.1
    simp only [ax_W_cons, ax_I, ax_cmp, ax_ii, ax_ll, ax_li, ax_st1, ax_st2, ax_kl, ax_k2, ax_fit, ax_rtok, List.getElem?_cons_zero, List.getElem?_cons_succ, List.length_cons, List.length_nil, List.set_cons_zero, List.set_cons_succ, Nat.reduceAdd, Nat.reduceDiv, Nat.reduceMod, Nat.reduceMul, Nat.reduceLT, Nat.reduceLeDiff, Int32.reduceOfInt, Int64.reduceOfInt, true_and, and_true, and_self, true_or, or_true, false_implies, true_implies, not_false_eq_true, not_true_eq_false, Value.category, Nat.reduceEqDiff, Option.toList, List.cons_append, List.nil_append, List.drop_succ_cons, List.drop_zero, ax_t_645, ax_j_645_97, ax_n_645_97, j0, kb_o, hal, hq0, e0]
    exact ⟨i1, i3, i4⟩
  · intro c hc ih v4 es1 i1 i2 i3 i4
    obtain ⟨e1, e2, e3, e4⟩ := kx_ix hc hk (by decide)
    have hi3 := i3
    obtain ⟨-, j0, j1, j2, j3, y1, y2, y3⟩ := hi3
    have k0 := i1.1
    simp only [ax_W_cons, ax_I, ax_cmp, ax_ii, ax_ll, ax_li, ax_st1, ax_st2, ax_kl, ax_k2, ax_fit, ax_rtok, List.getElem?_cons_zero, List.getElem?_cons_succ, List.length_cons, List.length_nil, List.set_cons_zero, List.set_cons_succ, Nat.reduceAdd, Nat.reduceDiv, Nat.reduceMod, Nat.reduceMul, Nat.reduceLT, Nat.reduceLeDiff, Int32.reduceOfInt, Int64.reduceOfInt, true_and, and_true, and_self, true_or, or_true, false_implies, true_implies, not_false_eq_true, not_true_eq_false, Value.category, Nat.reduceEqDiff, Option.toList, List.cons_append, List.nil_append, List.drop_succ_cons, List.drop_zero, ax_t_645, j0, kb_o, hal, hq0, e1]
    refine ax_inv_eq (Nat.le_of_ble_eq_true rfl) (Nat.le_of_ble_eq_true rfl) (fun _ => ax_rcv_ok (by omega) j0) (fun h => absurd h (by decide)) (Nat.le_refl _) (Nat.le_refl _) (ck_isCracked i3 (nI c)) ?_
    simp only [ax_W_cons, ax_I, ax_cmp, ax_ii, ax_ll, ax_li, ax_st1, ax_st2, ax_kl, ax_k2, ax_fit, ax_rtok, List.getElem?_cons_zero, List.getElem?_cons_succ, List.length_cons, List.length_nil, List.set_cons_zero, List.set_cons_succ, Nat.reduceAdd, Nat.reduceDiv, Nat.reduceMod, Nat.reduceMul, Nat.reduceLT, Nat.reduceLeDiff, Int32.reduceOfInt, Int64.reduceOfInt, true_and, and_true, and_self, true_or, or_true, false_implies, true_implies, not_false_eq_true, not_true_eq_false, Value.category, Nat.reduceEqDiff, Option.toList, List.cons_append, List.nil_append, List.drop_succ_cons, List.drop_zero, ax_t_645, ax_j_645_91, ax_n_645_91, kx_b0, e4]
    refine ⟨fun hcr => ?_, fun hcr => ?_⟩
    · rw [ax_j_645_17]
      have e9 : kx_rip F1 k cr (nI hh) (nI T) sh (c + 1) = kx_rip F1 k cr (nI hh) (nI T) sh c := by
        funext i
        unfold kx_rip
        by_cases hi : i = c
        · subst hi
          rw [if_neg (fun z => hcr z.2), if_neg (by omega)]
        · by_cases h8 : i < c ∧ kx_ck cr (nI i) = false
          · rw [if_pos h8, if_pos ⟨by omega, h8.2⟩]
          · rw [if_neg h8, if_neg (fun z => h8 ⟨by omega, z.2⟩)]
      exact ih v4 es1 i1 i2 (by rw [e9]; exact i3) i4
    · simp only [Classical.not_not] at hcr
      have eold : kx_rip F1 k cr (nI hh) (nI T) sh c = kx_rip F1 k cr (nI hh) (nI T) sh c := rfl
      have e9 : upd (kx_rip F1 k cr (nI hh) (nI T) sh c) c (kx_rv F1 (nI hh) (nI T) (kx_wv k sh c)) = kx_rip F1 k cr (nI hh) (nI T) sh (c + 1) := by
        funext i
        unfold upd kx_rip
        by_cases hi : i = c
        · subst hi
          rw [if_pos rfl, if_pos ⟨by omega, hcr⟩]
        · rw [if_neg hi]
          by_cases h8 : i < c ∧ kx_ck cr (nI i) = false
          · rw [if_pos h8, if_pos ⟨by omega, h8.2⟩]
          · rw [if_neg h8, if_neg (fun z => h8 ⟨by omega, z.2⟩)]
      have f1 : vp_in (nI (kx_pv k c)) 12 := nI_in (by unfold kx_pv; split <;> omega) (by decide)
      have f2 : (nI (kx_pv k c)).toNatClampNeg = kx_pv k c := nI_clamp (by unfold kx_pv; split <;> omega)
      have f3 : vp_in (nI (kx_nx k c)) 12 := nI_in (by unfold kx_nx; split <;> omega) (by decide)
      have f4 : (nI (kx_nx k c)).toNatClampNeg = kx_nx k c := nI_clamp (by unfold kx_nx; split <;> omega)
      have h20 : ¬ (2 : Int32) = 0 := by decide
      simp only [ax_W_cons, ax_I, ax_cmp, ax_ii, ax_ll, ax_li, ax_st1, ax_st2, ax_kl, ax_k2, ax_fit, ax_rtok, List.getElem?_cons_zero, List.getElem?_cons_succ, List.length_cons, List.length_nil, List.set_cons_zero, List.set_cons_succ, Nat.reduceAdd, Nat.reduceDiv, Nat.reduceMod, Nat.reduceMul, Nat.reduceLT, Nat.reduceLeDiff, Int32.reduceOfInt, Int64.reduceOfInt, true_and, and_true, and_self, true_or, or_true, false_implies, true_implies, not_false_eq_true, not_true_eq_false, Value.category, Nat.reduceEqDiff, Option.toList, List.cons_append, List.nil_append, List.drop_succ_cons, List.drop_zero, ax_t_645, k0, hal]
      refine ax_inv_eq (Nat.le_of_ble_eq_true rfl) (Nat.le_of_ble_eq_true rfl) (fun _ => ax_rcv_ok (by omega) j0) (fun h => absurd h (by decide)) (Nat.le_refl _) (Nat.le_refl _) (ck_cellAhead i3 (nI c)) ?_
      rw [kx_ahead_nI hk hc]
      simp only [ax_W_cons, ax_I, ax_cmp, ax_ii, ax_ll, ax_li, ax_st1, ax_st2, ax_kl, ax_k2, ax_fit, ax_rtok, List.getElem?_cons_zero, List.getElem?_cons_succ, List.length_cons, List.length_nil, List.set_cons_zero, List.set_cons_succ, Nat.reduceAdd, Nat.reduceDiv, Nat.reduceMod, Nat.reduceMul, Nat.reduceLT, Nat.reduceLeDiff, Int32.reduceOfInt, Int64.reduceOfInt, true_and, and_true, and_self, true_or, or_true, false_implies, true_implies, not_false_eq_true, not_true_eq_false, Value.category, Nat.reduceEqDiff, Option.toList, List.cons_append, List.nil_append, List.drop_succ_cons, List.drop_zero, ax_t_645, k0, i2, hal, f1, f2]
      refine ax_inv_eq (Nat.le_of_ble_eq_true rfl) (Nat.le_of_ble_eq_true rfl) (fun _ => ax_rcv_ok (by omega) j0) (fun h => absurd h (by decide)) (Nat.le_refl _) (Nat.le_refl _) (ck_cellBehind i3 (nI c)) ?_
      rw [kx_behind_nI hk hc, show (if c + 1 < k then c + 1 else 0) = kx_nx k c from rfl]
      simp only [ax_W_cons, ax_I, ax_cmp, ax_ii, ax_ll, ax_li, ax_st1, ax_st2, ax_kl, ax_k2, ax_fit, ax_rtok, List.getElem?_cons_zero, List.getElem?_cons_succ, List.length_cons, List.length_nil, List.set_cons_zero, List.set_cons_succ, Nat.reduceAdd, Nat.reduceDiv, Nat.reduceMod, Nat.reduceMul, Nat.reduceLT, Nat.reduceLeDiff, Int32.reduceOfInt, Int64.reduceOfInt, true_and, and_true, and_self, true_or, or_true, false_implies, true_implies, not_false_eq_true, not_true_eq_false, Value.category, Nat.reduceEqDiff, Option.toList, List.cons_append, List.nil_append, List.drop_succ_cons, List.drop_zero, ax_t_645, i2, j0, kb_o, hal, hq0, f3, f4, h20]
      obtain ⟨w, hw, ew⟩ := kx_wv_in hk hc hsh
      have ew2 : (sh (kx_pv k c) + sh (kx_nx k c)) / 2 = nI w := ew
      rw [ew] at e9
      rw [ew2]
      refine ⟨fun hw0 => ?_, fun hw0 => ?_⟩
      · simp only [ax_W_cons, ax_I, ax_cmp, ax_ii, ax_ll, ax_li, ax_st1, ax_st2, ax_kl, ax_k2, ax_fit, ax_rtok, List.getElem?_cons_zero, List.getElem?_cons_succ, List.length_cons, List.length_nil, List.set_cons_zero, List.set_cons_succ, Nat.reduceAdd, Nat.reduceDiv, Nat.reduceMod, Nat.reduceMul, Nat.reduceLT, Nat.reduceLeDiff, Int32.reduceOfInt, Int64.reduceOfInt, true_and, and_true, and_self, true_or, or_true, false_implies, true_implies, not_false_eq_true, not_true_eq_false, Value.category, Nat.reduceEqDiff, Option.toList, List.cons_append, List.nil_append, List.drop_succ_cons, List.drop_zero, ax_t_645, ax_j_645_72, ax_n_645_72, j0, k0, kb_o, hal, hq0]
        refine ax_inv_of (Nat.le_of_ble_eq_true rfl) (Nat.le_of_ble_eq_true rfl) (fun _ => ax_rcv_ok (by omega) k0) (fun h => absurd h (by decide)) (Nat.le_refl _) (Nat.le_refl _) (ax_Mt_mono (ck_fadeOf (by omega) hal (kC_fr hq hC i4) i1 hT hh5 hw) ?_)
        rintro r es2 ⟨rfl, m1, m2⟩
        simp only [ax_W_cons, ax_I, ax_cmp, ax_ii, ax_ll, ax_li, ax_st1, ax_st2, ax_kl, ax_k2, ax_fit, ax_rtok, List.getElem?_cons_zero, List.getElem?_cons_succ, List.length_cons, List.length_nil, List.set_cons_zero, List.set_cons_succ, Nat.reduceAdd, Nat.reduceDiv, Nat.reduceMod, Nat.reduceMul, Nat.reduceLT, Nat.reduceLeDiff, Int32.reduceOfInt, Int64.reduceOfInt, true_and, and_true, and_self, true_or, or_true, false_implies, true_implies, not_false_eq_true, not_true_eq_false, Value.category, Nat.reduceEqDiff, Option.toList, List.cons_append, List.nil_append, List.drop_succ_cons, List.drop_zero, ax_t_645]
        refine ax_inv_eq (Nat.le_of_ble_eq_true rfl) (Nat.le_of_ble_eq_true rfl) (fun _ => absurd ‹_› (by decide)) (fun h => absurd h (by decide)) (Nat.le_refl _) (Nat.le_refl _) (ck_max d n sl _ 0 (nI w - F1 (nI w) (nI hh) (nI T) 0)) ?_
        have i3' : kb es2 n q k p (nI T) cr (kx_rip F1 k cr (nI hh) (nI T) sh c) pl' dn := kb_fr i3 (fun j hj => m2 j (by omega))
        have i2' : es2 147 = .inl (0, 12, .inl sh) := by rw [m2 147 (by decide)]; exact i2
        have i4' : kfr q es es2 := kfr_trans i4 (fun j hj => m2 j (by omega))
        have jj := i3'.2.2.1
        simp only [ax_W_cons, ax_I, ax_cmp, ax_ii, ax_ll, ax_li, ax_st1, ax_st2, ax_kl, ax_k2, ax_fit, ax_rtok, List.getElem?_cons_zero, List.getElem?_cons_succ, List.length_cons, List.length_nil, List.set_cons_zero, List.set_cons_succ, Nat.reduceAdd, Nat.reduceDiv, Nat.reduceMod, Nat.reduceMul, Nat.reduceLT, Nat.reduceLeDiff, Int32.reduceOfInt, Int64.reduceOfInt, true_and, and_true, and_self, true_or, or_true, false_implies, true_implies, not_false_eq_true, not_true_eq_false, Value.category, Nat.reduceEqDiff, Option.toList, List.cons_append, List.nil_append, List.drop_succ_cons, List.drop_zero, ax_t_645, ax_j_645_90, ax_n_645_90, ax_j_645_91, ax_n_645_91, jj, kb_a, hal, hq1, e2, e3, e4]
        rw [ax_j_645_17]
        have e7 : kx_rv F1 (nI hh) (nI T) (nI w) = kx_max 0 (nI w - F1 (nI w) (nI hh) (nI T) 0) := by
          unfold kx_rv
          rw [if_neg hw0]
        rw [← e7, e9]
        have hup := kb_up1 i3' (kx_rip F1 k cr (nI hh) (nI T) sh (c + 1))
        unfold kb_a at hup
        rw [hup]
        obtain ⟨p0, ⟨ps1, pg1, p1, p2⟩, ⟨ps2, pg2, p3, p4⟩, ⟨pah, p5, p6⟩, pfd, p7, p8⟩ := m1
        refine ih _ _ ⟨?_, ⟨ps1, pg1, ?_, ?_⟩, ⟨ps2, pg2, ?_, ?_⟩, ⟨pah, ?_, p6⟩, pfd, ?_, p8⟩ ?_ (kw_kb (by omega) ?_ y2 y3) (kfr_trans i4' (fun j hj => kw_ne _ _ _ _ _ _ _ _ hj.2.2.2.2.2.2))
        · rw [kw_ne _ _ _ _ _ _ _ _ (by omega)]; exact p0
        · rw [kw_ne _ _ _ _ _ _ _ _ (by omega)]; exact p1
        · rw [kw_ne _ _ _ _ _ _ _ _ (by omega)]; exact p2
        · rw [kw_ne _ _ _ _ _ _ _ _ (by omega)]; exact p3
        · rw [kw_ne _ _ _ _ _ _ _ _ (by omega)]; exact p4
        · rw [kw_ne _ _ _ _ _ _ _ _ (by omega)]; exact p5
        · rw [kw_ne _ _ _ _ _ _ _ _ (by omega)]; exact p7
        · rw [kw_ne _ _ _ _ _ _ _ _ (by omega)]; exact i2'
        · rw [← e9]; exact kz_upd y1 (by omega)
      · simp only [Classical.not_not] at hw0
        have jj := i3.2.2.1
        simp only [ax_W_cons, ax_I, ax_cmp, ax_ii, ax_ll, ax_li, ax_st1, ax_st2, ax_kl, ax_k2, ax_fit, ax_rtok, List.getElem?_cons_zero, List.getElem?_cons_succ, List.length_cons, List.length_nil, List.set_cons_zero, List.set_cons_succ, Nat.reduceAdd, Nat.reduceDiv, Nat.reduceMod, Nat.reduceMul, Nat.reduceLT, Nat.reduceLeDiff, Int32.reduceOfInt, Int64.reduceOfInt, true_and, and_true, and_self, true_or, or_true, false_implies, true_implies, not_false_eq_true, not_true_eq_false, Value.category, Nat.reduceEqDiff, Option.toList, List.cons_append, List.nil_append, List.drop_succ_cons, List.drop_zero, ax_t_645, ax_j_645_90, ax_n_645_90, ax_j_645_91, ax_n_645_91, jj, kb_a, hal, hq1, e2, e3, e4]
        rw [ax_j_645_17]
        have e7 : kx_rv F1 (nI hh) (nI T) (nI w) = 0 := by
          unfold kx_rv
          rw [if_pos hw0]
        rw [e7] at e9
        rw [e9]
        have hup := kb_up1 i3 (kx_rip F1 k cr (nI hh) (nI T) sh (c + 1))
        unfold kb_a at hup
        rw [hup]
        obtain ⟨p0, ⟨ps1, pg1, p1, p2⟩, ⟨ps2, pg2, p3, p4⟩, ⟨pah, p5, p6⟩, pfd, p7, p8⟩ := i1
        refine ih _ _ ⟨?_, ⟨ps1, pg1, ?_, ?_⟩, ⟨ps2, pg2, ?_, ?_⟩, ⟨pah, ?_, p6⟩, pfd, ?_, p8⟩ ?_ (kw_kb (by omega) ?_ y2 y3) (kfr_trans i4 (fun j hj => kw_ne _ _ _ _ _ _ _ _ hj.2.2.2.2.2.2))
        · rw [kw_ne _ _ _ _ _ _ _ _ (by omega)]; exact p0
        · rw [kw_ne _ _ _ _ _ _ _ _ (by omega)]; exact p1
        · rw [kw_ne _ _ _ _ _ _ _ _ (by omega)]; exact p2
        · rw [kw_ne _ _ _ _ _ _ _ _ (by omega)]; exact p3
        · rw [kw_ne _ _ _ _ _ _ _ _ (by omega)]; exact p4
        · rw [kw_ne _ _ _ _ _ _ _ _ (by omega)]; exact p5
        · rw [kw_ne _ _ _ _ _ _ _ _ (by omega)]; exact p7
        · rw [kw_ne _ _ _ _ _ _ _ _ (by omega)]; exact i2
        · rw [← e9]; exact kz_upd y1 (by omega)
end KP
