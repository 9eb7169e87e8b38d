/-! Seer: the bowl now at 38, the trial at 150, the untouched one at 154, the tally at 158 -/
def kTo (es : ax_H) (n : Nat) : Prop := (∃ dr : Int64, es 149 = .inr (8, [.ref 146, .ref 38, .ref 42, .ref 150, .ref 154, .ref 158, .long dr])) ∧ (∃ k p t cr sh pl dn, kb es n 154 k p t cr sh pl dn) ∧ ∃ ty, es 158 = .inl (0, 1200, .inl ty) ∧ kz 1200 ty
/-- the rows that a seer writes over at will -/
def kSe (es : ax_H) (n : Nat) (F1 : Int32 → Int32 → Int32 → Int32 → Int32) : Prop := kR es F1 ∧ kTo es n ∧ ∃ k p t cr sh pl dn, kb es n 150 k p t cr sh pl dn
def kT (es : ax_H) (n : Nat) (F1 : Int32 → Int32 → Int32 → Int32 → Int32) (k p T : Nat) (cr : Int32) (sh pl dn : Nat → Int32) : Prop := kR es F1 ∧ kTo es n ∧ kb es n 150 k p (nI T) cr sh pl dn
/-- what a seer leaves as it is -/
def ksf (es es' : ax_H) : Prop := ∀ j, (j ≠ 11 ∧ j ≠ 12 ∧ j ≠ 14 ∧ j ≠ 15 ∧ (j < 147 ∨ 157 < j)) → es' j = es j
theorem ksf_rf (es : ax_H) : ksf es es := fun _ _ => rfl
theorem ksf_trans {a b c : ax_H} (h1 : ksf a b) (h2 : ksf b c) : ksf a c := fun j hj => (h2 j hj).trans (h1 j hj)
theorem kfr_ksf {q : Nat} {es es' : ax_H} (hq : q = 150 ∨ q = 154) (h : kfr q es es') : ksf es es' := fun j hj => h j (by omega)
theorem kT_kSe {es : ax_H} {n : Nat} {F1 : Int32 → Int32 → Int32 → Int32 → Int32} {k p T : Nat} {cr : Int32} {sh pl dn : Nat → Int32} (h : kT es n F1 k p T cr sh pl dn) : kSe es n F1 := ⟨h.1, h.2.1, _, _, _, _, _, _, _, h.2.2⟩
theorem kTo_fr {es es' : ax_H} {n : Nat} (h : kTo es n) (hf : ∀ j, (j = 149 ∨ (154 ≤ j ∧ j ≤ 158)) → es' j = es j) : kTo es' n := by
  obtain ⟨⟨dr, h1⟩, ⟨k, p, t, cr, sh, pl, dn, h2⟩, ty, h3, h4⟩ := h
  exact ⟨⟨dr, by rw [hf 149 (by omega)]; exact h1⟩, ⟨k, p, t, cr, sh, pl, dn, kb_fr h2 (fun j hj => hf j (by omega))⟩, ty, by rw [hf 158 (by omega)]; exact h3, h4⟩
theorem kC_sf {es es' : ax_H} {k p hc : Nat} {kd pl ht hs : Nat → Int32} {F1 F2 : Int32 → Int32 → Int32 → Int32 → Int32} (h : kC es k p hc kd pl ht hs F1 F2) (hf : ksf es es') : kC es' k p hc kd pl ht hs F1 F2 := by
  obtain ⟨once, nm, code, a1, b1, a2, b2, c3, c4, c5, c6, c7, c8, c9, c10, c13, L⟩ := h
  have e : ∀ j, j ≤ 13 → j ≠ 11 → j ≠ 12 → es' j = es j := fun j a b c => hf j (by omega)
  exact ⟨once, nm, code, a1, b1, a2, b2, by rw [e 3 (by decide) (by decide) (by decide)]; exact c3, by rw [e 4 (by decide) (by decide) (by decide)]; exact c4, by rw [e 5 (by decide) (by decide) (by decide)]; exact c5, by rw [e 6 (by decide) (by decide) (by decide)]; exact c6, by rw [e 7 (by decide) (by decide) (by decide)]; exact c7, by rw [e 8 (by decide) (by decide) (by decide)]; exact c8, by rw [e 9 (by decide) (by decide) (by decide)]; exact c9, by rw [e 10 (by decide) (by decide) (by decide)]; exact c10, by rw [e 13 (by decide) (by decide) (by decide)]; exact c13, L⟩
theorem kb_sf {es es' : ax_H} {n q k p : Nat} {t cr : Int32} {sh pl dn : Nat → Int32} (hq : 15 < q ∧ q + 3 < 147) (h : kb es n q k p t cr sh pl dn) (hf : ksf es es') : kb es' n q k p t cr sh pl dn := kb_fr h (fun j hj => hf j (by omega))
theorem kap150 : kap 150 := ⟨by decide, Or.inr (by decide)⟩
/-- the rows at will, with another bowl written at q -/
theorem kR_kw {es : ax_H} {q k p : Nat} {t cr : Int32} {sh pl dn : Nat → Int32} {F1 : Int32 → Int32 → Int32 → Int32 → Int32} (hq : kap q) (h : kR es F1) : kR (kw es q k p t cr sh pl dn) F1 := by
  obtain ⟨h1, h2⟩ := hq
  obtain ⟨p0, ⟨ps1, pg1, p1, p2⟩, ⟨ps2, pg2, p3, p4⟩, ⟨pah, p5, p6⟩, pfd, p7, p8⟩ := h
  refine ⟨?_, ⟨ps1, pg1, ?_, ?_⟩, ⟨ps2, pg2, ?_, ?_⟩, ⟨pah, ?_, p6⟩, pfd, ?_, p8⟩
  · rw [kw_ne _ _ _ _ _ _ _ _ (by omega)]; exact p0
  · rw [kw_ne _ _ _ _ _ _ _ _ (by omega)]; exact p1
  · rw [kw_ne _ _ _ _ _ _ _ _ (by omega)]; exact p2
  · rw [kw_ne _ _ _ _ _ _ _ _ (by omega)]; exact p3
  · rw [kw_ne _ _ _ _ _ _ _ _ (by omega)]; exact p4
  · rw [kw_ne _ _ _ _ _ _ _ _ (by omega)]; exact p5
  · rw [kw_ne _ _ _ _ _ _ _ _ (by omega)]; exact p7
/-- the trial written anew -/
theorem kT_kw {es : ax_H} {n : Nat} {F1 : Int32 → Int32 → Int32 → Int32 → Int32} {k p T : Nat} {cr : Int32} {sh pl dn : Nat → Int32} (hal : ax_al n = 178) (h1 : kR es F1) (h2 : kTo es n) (z1 : kz 12 sh) (z2 : kz 6 pl) (z3 : kz 6 dn) : kT (kw es 150 k p (nI T) cr sh pl dn) n F1 k p T cr sh pl dn ∧ ksf es (kw es 150 k p (nI T) cr sh pl dn) :=
  ⟨⟨kR_kw kap150 h1, kTo_fr h2 (fun j hj => kw_ne _ _ _ _ _ _ _ _ (by omega)), kw_kb (by omega) z1 z2 z3⟩, fun j hj => kw_ne _ _ _ _ _ _ _ _ (by omega)⟩
section KS
variable {d n sl k p hc : Nat} {es : ax_H} {kd pl0 ht hs : Nat → Int32} {F1 F2 : Int32 → Int32 → Int32 → Int32 → Int32} {T : Nat} {cr : Int32} {sh pl dn : Nat → Int32}
theorem cs_copy (hd : 1 ≤ d) (hal : ax_al n = 178) (hS : kSe es n F1) (hb : kb es n 38 k p (nI T) cr sh pl dn) : ax_Mt d 2 [.ref 150, .ref 38] n sl es (fun r es' => r = none ∧ kT es' n F1 k p T cr sh pl dn ∧ ksf es es') := by
  obtain ⟨h1, h2, k', p', t', cr', sh', pl', dn', h3⟩ := hS
  refine ax_Mt_mono (ck_copy hd h3 hb (by omega)) ?_
  rintro r es' ⟨rfl, rfl⟩
  obtain ⟨-, -, -, -, -, z1, z2, z3⟩ := hb
  exact ⟨rfl, kT_kw hal h1 h2 z1 z2 z3⟩
theorem cs_drift (hd : 4 ≤ d) (hal : ax_al n = 178) (hk : k ≤ 12) {m : Nat} (hT : T + m < 4000) (hhs : khs hc hs) (hsh : ks sh) (hC : kC es k p hc kd pl0 ht hs F1 F2) (h : kT es n F1 k p T cr sh pl dn) : ax_Mt d 643 [.ref 146, .ref 150, .int (nI m)] n sl es (fun r es' => r = none ∧ kT es' n F1 k p (T + m) cr (kx_dr F1 k cr hs hc T sh m) pl dn ∧ ksf es es') := by
  obtain ⟨h1, h2, h3⟩ := h
  refine ax_Mt_mono (ck_drift hd hal hk kap150 hT hhs hsh hC h1 h3) ?_
  rintro r es' ⟨rfl, m1, m2, m3⟩
  exact ⟨rfl, ⟨m1, kTo_fr h2 (fun j hj => m3 j (by omega)), m2⟩, kfr_ksf (Or.inl rfl) m3⟩
theorem cs_pass (hd : 5 ≤ d) (hal : ax_al n = 178) (hk : k ≤ 12) (hp : p ≤ 6) (hpl : kpl k p pl) {m : Nat} (hT : T + m < 4000) (hhs : khs hc hs) (hsh : ks sh) (hC : kC es k p hc kd pl0 ht hs F1 F2) (h : kT es n F1 k p T cr sh pl dn) : ax_Mt d 642 [.ref 146, .ref 150, .int (nI m)] n sl es (fun r es' => r = some (.int (kx_all (kx_dd F1 F2 k kd ht cr hs hc T sh pl) p m)) ∧ kT es' n F1 k p (T + m) cr (kx_dr F1 k cr hs hc T sh m) pl (kx_pdn (kx_dd F1 F2 k kd ht cr hs hc T sh pl) p dn m) ∧ ksf es es') := by
  obtain ⟨h1, h2, h3⟩ := h
  refine ax_Mt_mono (ck_pass hd hal hk hp kap150 hpl hT hhs hsh hC h1 h3) ?_
  rintro r es' ⟨rfl, m1, m2, m3⟩
  exact ⟨rfl, ⟨m1, kTo_fr h2 (fun j hj => m3 j (by omega)), m2⟩, kfr_ksf (Or.inl rfl) m3⟩
/-- later -/
theorem ck_shakeBehind (hd : 5 ≤ d) (hal : ax_al n = 178) (hk : k ≤ 12) {c m : Nat} (hc2 : c < 12) (hT : T + m < 4000) (hhs : khs hc hs) (hsh : ks sh) (hC : kC es k p hc kd pl0 ht hs F1 F2) (hS : kSe es n F1) (hb : kb es n 38 k p (nI T) cr sh pl dn) : ax_Mt d 1026 [.ref 149, .int (nI c), .int (nI m)] n sl es (fun r es' => r = some (.int (kx_dr F1 k cr hs hc T sh m c)) ∧ kSe es' n F1 ∧ ksf es es') := by
  obtain ⟨d, rfl⟩ : ∃ z, d = z + 1 := ⟨d - 1, by omega⟩
  obtain ⟨dr, h149⟩ := hS.2.1.1
  have h150 := hS.2.2
  have e2 : vp_in (nI c) 12 := nI_in hc2 (by decide)
  have e3 : (nI c).toNatClampNeg = c := nI_clamp (by omega)
  refine ax_Mt_start (m := ax_m_8_2) (ls := [some (.ref 149), some (.int (nI c)), some (.int (nI m))]) rfl ax_b_1026_0 (Nat.le_of_ble_eq_true rfl) rfl ?_
  simp only [ax_W_cons, ax_I, ax_cmp, ax_ii, ax_ll, ax_li, ax_st1, ax_st2, ax_kl, ax_k2, ax_fit, ax_rtok, List.getElem?_cons_zero, List.getElem?_cons_succ, List.length_cons, List.length_nil, List.set_cons_zero, List.set_cons_succ, Nat.reduceAdd, Nat.reduceDiv, Nat.reduceMod, Nat.reduceMul, Nat.reduceLT, Nat.reduceLeDiff, Int32.reduceOfInt, Int64.reduceOfInt, true_and, and_true, and_self, true_or, or_true, false_implies, true_implies, not_false_eq_true, not_true_eq_false, Value.category, Nat.reduceEqDiff, Option.toList, List.cons_append, List.nil_append, List.drop_succ_cons, List.drop_zero, ax_t_1026, h149, hal]
  obtain ⟨k', p', t', cr', sh', pl', dn', h3⟩ := h150
  refine ax_inv_of (Nat.le_of_ble_eq_true rfl) (Nat.le_of_ble_eq_true rfl) (fun _ => ax_rcv_ok (by omega) h3.2.1) (fun h => absurd h (by decide)) (Nat.le_refl _) (Nat.le_refl _) (ax_Mt_mono (cs_copy (by omega) hal hS hb) ?_)
  rintro r es2 ⟨rfl, m1, m2⟩
  obtain ⟨dr2, q149⟩ := m1.2.1.1
  simp only [ax_W_cons, ax_I, ax_cmp, ax_ii, ax_ll, ax_li, ax_st1, ax_st2, ax_kl, ax_k2, ax_fit, ax_rtok, List.getElem?_cons_zero, List.getElem?_cons_succ, List.length_cons, List.length_nil, List.set_cons_zero, List.set_cons_succ, Nat.reduceAdd, Nat.reduceDiv, Nat.reduceMod, Nat.reduceMul, Nat.reduceLT, Nat.reduceLeDiff, Int32.reduceOfInt, Int64.reduceOfInt, true_and, and_true, and_self, true_or, or_true, false_implies, true_implies, not_false_eq_true, not_true_eq_false, Value.category, Nat.reduceEqDiff, Option.toList, List.cons_append, List.nil_append, List.drop_succ_cons, List.drop_zero, ax_t_1026, q149, hal]
  refine ax_inv_of (Nat.le_of_ble_eq_true rfl) (Nat.le_of_ble_eq_true rfl) (fun _ => ax_rcv_ok (by omega) m1.1.1) (fun h => absurd h (by decide)) (Nat.le_refl _) (Nat.le_refl _) (ax_Mt_mono (cs_drift (by omega) hal hk hT hhs hsh (kC_sf hC m2) m1) ?_)
  rintro r es3 ⟨rfl, m3, m4⟩
  obtain ⟨dr3, w149⟩ := m3.2.1.1
  have y0 := m3.2.2.2.1
  have y1 := m3.2.2.2.2.1
  simp only [ax_W_cons, ax_I, ax_cmp, ax_ii, ax_ll, ax_li, ax_st1, ax_st2, ax_kl, ax_k2, ax_fit, ax_rtok, List.getElem?_cons_zero, List.getElem?_cons_succ, List.length_cons, List.length_nil, List.set_cons_zero, List.set_cons_succ, Nat.reduceAdd, Nat.reduceDiv, Nat.reduceMod, Nat.reduceMul, Nat.reduceLT, Nat.reduceLeDiff, Int32.reduceOfInt, Int64.reduceOfInt, true_and, and_true, and_self, true_or, or_true, false_implies, true_implies, not_false_eq_true, not_true_eq_false, Value.category, Nat.reduceEqDiff, Option.toList, List.cons_append, List.nil_append, List.drop_succ_cons, List.drop_zero, ax_t_1026, w149, y0, y1, kb_o, kb_a, hal, e2, e3]
  exact ⟨kT_kSe m3, ksf_trans m2 m4⟩
end KS
