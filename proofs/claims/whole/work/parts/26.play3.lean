/-! Play: beats go by -/
def kx_dr (F : Int32 → Int32 → Int32 → Int32 → Int32) (k : Nat) (cr : Int32) (hs : Nat → Int32) (hc T : Nat) (sh : Nat → Int32) : Nat → (Nat → Int32)
  | 0 => sh
  | m + 1 => kx_rip F k cr (hs ((T + m) % hc)) (nI (T + m)) (kx_dr F k cr hs hc T sh m) k
/-- what each one does at the beat m -/
def kx_dd (F1 F2 : Int32 → Int32 → Int32 → Int32 → Int32) (k : Nat) (kd ht : Nat → Int32) (cr : Int32) (hs : Nat → Int32) (hc T : Nat) (sh pl : Nat → Int32) (m : Nat) : Nat → Int32 := kx_deed F2 k kd ht (hs ((T + m) % hc)) (nI (T + m)) (kx_dr F1 k cr hs hc T sh (m + 1)) pl
def kx_pdn (D : Nat → Nat → Int32) (p : Nat) (dn : Nat → Int32) : Nat → (Nat → Int32)
  | 0 => dn
  | m + 1 => kx_dns (D m) (kx_pdn D p dn m) p
def kx_all (D : Nat → Nat → Int32) (p : Nat) : Nat → Int32
  | 0 => 0
  | m + 1 => kx_all D p m + kx_sum (D m) p
/-- heats are within 0 to 5 -/
def khs (hc : Nat) (hs : Nat → Int32) : Prop := 0 < hc ∧ hc ≤ 12 ∧ ∀ i, i < hc → ∃ h, h ≤ 5 ∧ hs i = nI h
theorem kx_rv_in {F : Int32 → Int32 → Int32 → Int32 → Int32} {h t : Int32} {w v : Nat} (hw : w < 100) (hv : v ≤ 99) (hF : F (nI w) h t 0 = nI v) : ∃ u, u ≤ 99 ∧ kx_rv F h t (nI w) = nI u := by
  unfold kx_rv
  split
  · exact ⟨0, by omega, rfl⟩
  · rw [hF]
    unfold kx_max
    by_cases hle : v < w
    · refine ⟨w - v, by omega, ?_⟩
      have e : nI w - nI v = nI (w - v) := by
        have e8 : nI w = nI (w - v) + nI v := by rw [kn_add]; congr 1; omega
        rw [e8, Int32.add_sub_cancel]
      rw [e, if_pos (show (0 : Int32) < nI (w - v) from nI_lt (a := 0) (by omega) (by omega))]
    · refine ⟨0, by omega, ?_⟩
      have e : ¬ (0 : Int32) < nI w - nI v := by
        have e2 : ∀ w v : Fin 100, w.val ≤ v.val → ¬ (0 : Int32) < nI w.val - nI v.val := by decide +kernel
        exact e2 ⟨w, hw⟩ ⟨v, by omega⟩ (by simpa using hle)
      rw [if_neg e]
      rfl
theorem ks_rip {F : Int32 → Int32 → Int32 → Int32 → Int32} {k m : Nat} {cr h t : Int32} {sh : Nat → Int32} (hk : k ≤ 12) (hm : m ≤ k) (hF : ∀ x0 x1 x2 x3, ∃ v, v ≤ 99 ∧ F x0 x1 x2 x3 = nI v) (hsh : ks sh) : ks (kx_rip F k cr h t sh m) := by
  intro i hi
  unfold kx_rip
  split
  · next hc =>
    obtain ⟨w, hw, ew⟩ := kx_wv_in hk (i := i) (by omega) hsh
    obtain ⟨v, hv, ev⟩ := hF (nI w) h t 0
    rw [ew]
    exact kx_rv_in hw hv ev
  · exact hsh i hi
theorem ks_dr {F : Int32 → Int32 → Int32 → Int32 → Int32} {k : Nat} {cr : Int32} {hs : Nat → Int32} {hc T : Nat} {sh : Nat → Int32} (hk : k ≤ 12) (hF : ∀ x0 x1 x2 x3, ∃ v, v ≤ 99 ∧ F x0 x1 x2 x3 = nI v) (hsh : ks sh) : ∀ m, ks (kx_dr F k cr hs hc T sh m)
  | 0 => hsh
  | m + 1 => ks_rip hk (Nat.le_refl _) hF (ks_dr hk hF hsh m)
theorem kC_F {es : ax_H} {k p hc : Nat} {kd pl ht hs : Nat → Int32} {F1 F2 : Int32 → Int32 → Int32 → Int32 → Int32} (h : kC es k p hc kd pl ht hs F1 F2) : ∀ x0 x1 x2 x3, ∃ v, v ≤ 99 ∧ F1 x0 x1 x2 x3 = nI v := by
  obtain ⟨once, nm, code, a1, b1, a2, b2, c3, c4, c5, c6, c7, c8, c9, c10, c13, L1, L2⟩ := h
  exact kl_ok_in L1
section KP
variable {d n sl k p hc : Nat} {es : ax_H} {kd pl0 ht hs : Nat → Int32} {F1 F2 : Int32 → Int32 → Int32 → Int32 → Int32}
theorem ck_driftInHeat (hd : 4 ≤ d) (hal : ax_al n = 178) {q : Nat} {T hh : Nat} {cr : Int32} {sh pl dn : Nat → Int32} (hk : k ≤ 12) (hq : kap q) (hT : T < 4000) (hh5 : hh ≤ 5) (hsh : ks sh) (hC : kC es k p hc kd pl0 ht hs F1 F2) (hR : kR es F1) (hb : kb es n q k p (nI T) cr sh pl dn) :
    ax_Mt d 644 [.ref 146, .ref q, .int (nI hh)] n sl es (fun r es' => r = none ∧ kR es' F1 ∧ kb es' n q k p (nI (T + 1)) cr (kx_rip F1 k cr (nI hh) (nI T) sh k) pl dn ∧ kfr q es es') := by
  obtain ⟨d, rfl⟩ : ∃ z, d = z + 1 := ⟨d - 1, by omega⟩
  have hn := hb.1
  rw [hal] at hn
  have hq2 := hq
  obtain ⟨ha1, ha2⟩ := hq2
  have hq0 : q < 178 := by omega
  have r0 := hR.1
  refine ax_Mt_start (m := ax_m_5_4) (ls := [some (.ref 146), some (.ref q), some (.int (nI hh))]) rfl ax_b_644_0 (Nat.le_of_ble_eq_true rfl) rfl ?_
  simp only [ax_W_cons, ax_I, ax_cmp, ax_ii, ax_ll, ax_li, ax_st1, ax_st2, ax_kl, ax_k2, ax_fit, ax_rtok, List.getElem?_cons_zero, List.getElem?_cons_succ, List.length_cons, List.length_nil, List.set_cons_zero, List.set_cons_succ, Nat.reduceAdd, Nat.reduceDiv, Nat.reduceMod, Nat.reduceMul, Nat.reduceLT, Nat.reduceLeDiff, Int32.reduceOfInt, Int64.reduceOfInt, true_and, and_true, and_self, true_or, or_true, false_implies, true_implies, not_false_eq_true, not_true_eq_false, Value.category, Nat.reduceEqDiff, Option.toList, List.cons_append, List.nil_append, List.drop_succ_cons, List.drop_zero, ax_t_644]
  refine ax_inv_of (Nat.le_of_ble_eq_true rfl) (Nat.le_of_ble_eq_true rfl) (fun _ => ax_rcv_ok (by omega) r0) (fun h => absurd h (by decide)) (Nat.le_refl _) (Nat.le_refl _) (ax_Mt_mono (ck_ripple (by omega) hal hk hq hT hh5 hsh hC hR hb) ?_)
  rintro r es2 ⟨rfl, m1, m2, m3⟩
  obtain ⟨-, y0, y1, y2, y3, x1, x2, x3⟩ := id m2
  have e4 : nI T + 1 = nI (T + 1) := (nI_succ T).symm
  simp only [ax_W_cons, ax_I, ax_cmp, ax_ii, ax_ll, ax_li, ax_st1, ax_st2, ax_kl, ax_k2, ax_fit, ax_rtok, List.getElem?_cons_zero, List.getElem?_cons_succ, List.length_cons, List.length_nil, List.set_cons_zero, List.set_cons_succ, Nat.reduceAdd, Nat.reduceDiv, Nat.reduceMod, Nat.reduceMul, Nat.reduceLT, Nat.reduceLeDiff, Int32.reduceOfInt, Int64.reduceOfInt, true_and, and_true, and_self, true_or, or_true, false_implies, true_implies, not_false_eq_true, not_true_eq_false, Value.category, Nat.reduceEqDiff, Option.toList, List.cons_append, List.nil_append, List.drop_succ_cons, List.drop_zero, ax_t_644, y0, kb_o, hal, hq0, e4]
  have hup := kb_up0 m2 k p (nI (T + 1)) cr
  unfold kb_o at hup
  rw [hup]
  obtain ⟨p0, ⟨ps1, pg1, p1, p2⟩, ⟨ps2, pg2, p3, p4⟩, ⟨pah, p5, p6⟩, pfd, p7, p8⟩ := m1
  refine ⟨⟨?_, ⟨ps1, pg1, ?_, ?_⟩, ⟨ps2, pg2, ?_, ?_⟩, ⟨pah, ?_, p6⟩, pfd, ?_, p8⟩, kw_kb (by omega) x1 x2 x3, kfr_trans m3 (fun j hj => kw_ne _ _ _ _ _ _ _ _ hj.2.2.2.2.2.2)⟩
  · rw [kw_ne _ _ _ _ _ _ _ _ (by omega)]; exact p0
  · rw [kw_ne _ _ _ _ _ _ _ _ (by omega)]; exact p1
  · rw [kw_ne _ _ _ _ _ _ _ _ (by omega)]; exact p2
  · rw [kw_ne _ _ _ _ _ _ _ _ (by omega)]; exact p3
  · rw [kw_ne _ _ _ _ _ _ _ _ (by omega)]; exact p4
  · rw [kw_ne _ _ _ _ _ _ _ _ (by omega)]; exact p5
  · rw [kw_ne _ _ _ _ _ _ _ _ (by omega)]; exact p7
theorem ck_drift (hd : 4 ≤ d) (hal : ax_al n = 178) {q : Nat} {T m : Nat} {cr : Int32} {sh pl dn : Nat → Int32} (hk : k ≤ 12) (hq : kap q) (hT : T + m < 4000) (hhs : khs hc hs) (hsh : ks sh) (hC : kC es k p hc kd pl0 ht hs F1 F2) (hR : kR es F1) (hb : kb es n q k p (nI T) cr sh pl dn) :
    ax_Mt d 643 [.ref 146, .ref q, .int (nI m)] n sl es (fun r es' => r = none ∧ kR es' F1 ∧ kb es' n q k p (nI (T + m)) cr (kx_dr F1 k cr hs hc T sh m) pl dn ∧ kfr q es es') := by
  obtain ⟨d, rfl⟩ : ∃ z, d = z + 1 := ⟨d - 1, by omega⟩
  have hn := hb.1
  rw [hal] at hn
  have hq2 := hq
  obtain ⟨ha1, ha2⟩ := hq2
  have hq0 : q < 178 := by omega
  refine ax_Mt_start (m := ax_m_5_3) (ls := [some (.ref 146), some (.ref q), some (.int (nI m)), none]) rfl ax_b_643_0 (Nat.le_of_ble_eq_true rfl) rfl ?_
  simp only [ax_W_cons, ax_I, ax_cmp, ax_ii, ax_ll, ax_li, ax_st1, ax_st2, ax_kl, ax_k2, ax_fit, ax_rtok, List.getElem?_cons_zero, List.getElem?_cons_succ, List.length_cons, List.length_nil, List.set_cons_zero, List.set_cons_succ, Nat.reduceAdd, Nat.reduceDiv, Nat.reduceMod, Nat.reduceMul, Nat.reduceLT, Nat.reduceLeDiff, Int32.reduceOfInt, Int64.reduceOfInt, true_and, and_true, and_self, true_or, or_true, false_implies, true_implies, not_false_eq_true, not_true_eq_false, Value.category, Nat.reduceEqDiff, Option.toList, List.cons_append, List.nil_append, List.drop_succ_cons, List.drop_zero, ax_t_643]
  rw [ax_n_643_2]
  have L := kx_loop (k := m) (I := fun c => ∀ es1, kR es1 F1 → kb es1 n q k p (nI (T + c)) cr (kx_dr F1 k cr hs hc T sh c) pl dn → kfr q es es1 → ax_W (d + 1) n sl 643 [(1, .iload 3), (1, .iload 2), (3, .if_icmp .ge 39), (1, .aload 0), (1, .aload 1), (1, .aload 0), (3, .getfield 1282), (1, .aload 1), (3, .getfield 8), (3, .invokeinterface 136 9), (3, .invokeinterface 645 13), (1, .aload 1), (1, .dup), (3, .getfield 8), (1, .iconst 1), (1, .iadd), (3, .putfield 8), (3, .iinc 3 1), (3, .goto 2)] 2 [some (.ref 146), some (.ref q), some (.int (nI m)), some (.int (nI c))] [] n sl es1 (fun r n' sl' es' => n' = n ∧ sl' = sl ∧ r = none ∧ kR es' F1 ∧ kb es' n q k p (nI (T + m)) cr (kx_dr F1 k cr hs hc T sh m) pl dn ∧ kfr q es es')) ?_ ?_
  · exact L es hR hb (kfr_rf q es)
  · intro es1 i1 i3 i4
    have e0 := kx_nn (k := m) (by omega)
    simp only [ax_W_cons, ax_I, ax_cmp, ax_ii, ax_ll, ax_li, ax_st1, ax_st2, ax_kl, ax_k2, ax_fit, ax_rtok, List.getElem?_cons_zero, List.getElem?_cons_succ, List.length_cons, List.length_nil, List.set_cons_zero, List.set_cons_succ, Nat.reduceAdd, Nat.reduceDiv, Nat.reduceMod, Nat.reduceMul, Nat.reduceLT, Nat.reduceLeDiff, Int32.reduceOfInt, Int64.reduceOfInt, true_and, and_true, and_self, true_or, or_true, false_implies, true_implies, not_false_eq_true, not_true_eq_false, Value.category, Nat.reduceEqDiff, Option.toList, List.cons_append, List.nil_append, List.drop_succ_cons, List.drop_zero, ax_t_643, ax_j_643_39, ax_n_643_39, e0]
    exact ⟨i1, i3, i4⟩
  · intro c hc2 ih es1 i1 i3 i4
    obtain ⟨e1, -, -, e4⟩ := kx_ix (N := 4000) hc2 (by omega) (by decide)
    have j0 := i3.2.1
    have k0 := i1.1
    have hC1 := kC_fr hq hC i4
    obtain ⟨once, nm, code, a1, b1, a2, b2, c3, -⟩ := id hC1
    obtain ⟨hh, hh5, eh⟩ := hhs.2.2 ((T + c) % hc) (Nat.mod_lt _ hhs.1)
    simp only [ax_W_cons, ax_I, ax_cmp, ax_ii, ax_ll, ax_li, ax_st1, ax_st2, ax_kl, ax_k2, ax_fit, ax_rtok, List.getElem?_cons_zero, List.getElem?_cons_succ, List.length_cons, List.length_nil, List.set_cons_zero, List.set_cons_succ, Nat.reduceAdd, Nat.reduceDiv, Nat.reduceMod, Nat.reduceMul, Nat.reduceLT, Nat.reduceLeDiff, Int32.reduceOfInt, Int64.reduceOfInt, true_and, and_true, and_self, true_or, or_true, false_implies, true_implies, not_false_eq_true, not_true_eq_false, Value.category, Nat.reduceEqDiff, Option.toList, List.cons_append, List.nil_append, List.drop_succ_cons, List.drop_zero, ax_t_643, j0, k0, kb_o, hal, hq0, e1]
    refine ax_inv_eq (Nat.le_of_ble_eq_true rfl) (Nat.le_of_ble_eq_true rfl) (fun _ => ax_rcv_ok (by omega) c3) (fun h => absurd h (by decide)) (Nat.le_refl _) (Nat.le_refl _) (ck_heatAt (by omega) hal hhs.1 hhs.2.1 hC1 (by omega)) ?_
    rw [eh]
    simp only [ax_W_cons, ax_I, ax_cmp, ax_ii, ax_ll, ax_li, ax_st1, ax_st2, ax_kl, ax_k2, ax_fit, ax_rtok, List.getElem?_cons_zero, List.getElem?_cons_succ, List.length_cons, List.length_nil, List.set_cons_zero, List.set_cons_succ, Nat.reduceAdd, Nat.reduceDiv, Nat.reduceMod, Nat.reduceMul, Nat.reduceLT, Nat.reduceLeDiff, Int32.reduceOfInt, Int64.reduceOfInt, true_and, and_true, and_self, true_or, or_true, false_implies, true_implies, not_false_eq_true, not_true_eq_false, Value.category, Nat.reduceEqDiff, Option.toList, List.cons_append, List.nil_append, List.drop_succ_cons, List.drop_zero, ax_t_643]
    refine ax_inv_of (Nat.le_of_ble_eq_true rfl) (Nat.le_of_ble_eq_true rfl) (fun _ => ax_rcv_ok (by omega) k0) (fun h => absurd h (by decide)) (Nat.le_refl _) (Nat.le_refl _) (ax_Mt_mono (ck_ripple (by omega) hal hk hq (by omega) hh5 (ks_dr hk (kC_F hC) hsh c) hC1 i1 i3) ?_)
    rintro r es2 ⟨rfl, m1, m2, m3⟩
    obtain ⟨-, y0, y1, y2, y3, x1, x2, x3⟩ := id m2
    have e5 : nI (T + c) + 1 = nI (T + (c + 1)) := (nI_succ (T + c)).symm
    simp only [ax_W_cons, ax_I, ax_cmp, ax_ii, ax_ll, ax_li, ax_st1, ax_st2, ax_kl, ax_k2, ax_fit, ax_rtok, List.getElem?_cons_zero, List.getElem?_cons_succ, List.length_cons, List.length_nil, List.set_cons_zero, List.set_cons_succ, Nat.reduceAdd, Nat.reduceDiv, Nat.reduceMod, Nat.reduceMul, Nat.reduceLT, Nat.reduceLeDiff, Int32.reduceOfInt, Int64.reduceOfInt, true_and, and_true, and_self, true_or, or_true, false_implies, true_implies, not_false_eq_true, not_true_eq_false, Value.category, Nat.reduceEqDiff, Option.toList, List.cons_append, List.nil_append, List.drop_succ_cons, List.drop_zero, ax_t_643, y0, kb_o, hal, hq0, e4, e5]
    rw [ax_j_643_2]
    have hup := kb_up0 m2 k p (nI (T + (c + 1))) cr
    unfold kb_o at hup
    rw [hup]
    rw [← eh] at x1 m2
    obtain ⟨p0, ⟨ps1, pg1, p1, p2⟩, ⟨ps2, pg2, p3, p4⟩, ⟨pah, p5, p6⟩, pfd, p7, p8⟩ := m1
    rw [← eh]
    refine ih _ ⟨?_, ⟨ps1, pg1, ?_, ?_⟩, ⟨ps2, pg2, ?_, ?_⟩, ⟨pah, ?_, p6⟩, pfd, ?_, p8⟩ (kw_kb (by omega) x1 x2 x3) (kfr_trans (kfr_trans i4 m3) (fun j hj => kw_ne _ _ _ _ _ _ _ _ hj.2.2.2.2.2.2))
    · rw [kw_ne _ _ _ _ _ _ _ _ (by omega)]; exact p0
    · rw [kw_ne _ _ _ _ _ _ _ _ (by omega)]; exact p1
    · rw [kw_ne _ _ _ _ _ _ _ _ (by omega)]; exact p2
    · rw [kw_ne _ _ _ _ _ _ _ _ (by omega)]; exact p3
    · rw [kw_ne _ _ _ _ _ _ _ _ (by omega)]; exact p4
    · rw [kw_ne _ _ _ _ _ _ _ _ (by omega)]; exact p5
    · rw [kw_ne _ _ _ _ _ _ _ _ (by omega)]; exact p7
theorem ck_pass (hd : 5 ≤ d) (hal : ax_al n = 178) {q : Nat} {T m : Nat} {cr : Int32} {sh pl dn : Nat → Int32} (hk : k ≤ 12) (hp : p ≤ 6) (hq : kap q) (hpl : kpl k p pl) (hT : T + m < 4000) (hhs : khs hc hs) (hsh : ks sh) (hC : kC es k p hc kd pl0 ht hs F1 F2) (hR : kR es F1) (hb : kb es n q k p (nI T) cr sh pl dn) :
    ax_Mt d 642 [.ref 146, .ref q, .int (nI m)] n sl es (fun r es' => r = some (.int (kx_all (kx_dd F1 F2 k kd ht cr hs hc T sh pl) p m)) ∧ kR es' F1 ∧ kb es' n q k p (nI (T + m)) cr (kx_dr F1 k cr hs hc T sh m) pl (kx_pdn (kx_dd F1 F2 k kd ht cr hs hc T sh pl) p dn m) ∧ kfr q es es') := by
  obtain ⟨d, rfl⟩ : ∃ z, d = z + 1 := ⟨d - 1, by omega⟩
  have hn := hb.1
  rw [hal] at hn
  have hq2 := hq
  obtain ⟨ha1, ha2⟩ := hq2
  have hq0 : q < 178 := by omega
  refine ax_Mt_start (m := ax_m_5_2) (ls := [some (.ref 146), some (.ref q), some (.int (nI m)), none, none, none]) rfl ax_b_642_0 (Nat.le_of_ble_eq_true rfl) rfl ?_
  simp only [ax_W_cons, ax_I, ax_cmp, ax_ii, ax_ll, ax_li, ax_st1, ax_st2, ax_kl, ax_k2, ax_fit, ax_rtok, List.getElem?_cons_zero, List.getElem?_cons_succ, List.length_cons, List.length_nil, List.set_cons_zero, List.set_cons_succ, Nat.reduceAdd, Nat.reduceDiv, Nat.reduceMod, Nat.reduceMul, Nat.reduceLT, Nat.reduceLeDiff, Int32.reduceOfInt, Int64.reduceOfInt, true_and, and_true, and_self, true_or, or_true, false_implies, true_implies, not_false_eq_true, not_true_eq_false, Value.category, Nat.reduceEqDiff, Option.toList, List.cons_append, List.nil_append, List.drop_succ_cons, List.drop_zero, ax_t_642]
  rw [ax_n_642_5]
  have L := kx_loop (k := m) (I := fun c => ∀ v5 es1, kR es1 F1 → kb es1 n q k p (nI (T + c)) cr (kx_dr F1 k cr hs hc T sh c) pl (kx_pdn (kx_dd F1 F2 k kd ht cr hs hc T sh pl) p dn c) → kfr q es es1 → ax_W (d + 1) n sl 642 [(2, .iload 4), (1, .iload 2), (3, .if_icmp .ge 57), (1, .aload 0), (3, .getfield 1282), (1, .aload 1), (3, .getfield 8), (3, .invokeinterface 136 9), (2, .istore 5), (1, .aload 0), (1, .aload 1), (2, .iload 5), (3, .invokeinterface 645 13), (1, .iload 3), (1, .aload 0), (1, .aload 1), (2, .iload 5), (3, .invokeinterface 647 13), (1, .iadd), (1, .istore 3), (1, .aload 1), (1, .dup), (3, .getfield 8), (1, .iconst 1), (1, .iadd), (3, .putfield 8), (3, .iinc 4 1), (3, .goto 5)] 5 [some (.ref 146), some (.ref q), some (.int (nI m)), some (.int (kx_all (kx_dd F1 F2 k kd ht cr hs hc T sh pl) p c)), some (.int (nI c)), v5] [] n sl es1 (fun r n' sl' es' => n' = n ∧ sl' = sl ∧ r = some (.int (kx_all (kx_dd F1 F2 k kd ht cr hs hc T sh pl) p m)) ∧ kR es' F1 ∧ kb es' n q k p (nI (T + m)) cr (kx_dr F1 k cr hs hc T sh m) pl (kx_pdn (kx_dd F1 F2 k kd ht cr hs hc T sh pl) p dn m) ∧ kfr q es es')) ?_ ?_
  · exact L none es hR hb (kfr_rf q es)
  · intro v5 es1 i1 i3 i4
    have e0 := kx_nn (k := m) (by omega)
    simp only [ax_W_cons, ax_I, ax_cmp, ax_ii, ax_ll, ax_li, ax_st1, ax_st2, ax_kl, ax_k2, ax_fit, ax_rtok, List.getElem?_cons_zero, List.getElem?_cons_succ, List.length_cons, List.length_nil, List.set_cons_zero, List.set_cons_succ, Nat.reduceAdd, Nat.reduceDiv, Nat.reduceMod, Nat.reduceMul, Nat.reduceLT, Nat.reduceLeDiff, Int32.reduceOfInt, Int64.reduceOfInt, true_and, and_true, and_self, true_or, or_true, false_implies, true_implies, not_false_eq_true, not_true_eq_false, Value.category, Nat.reduceEqDiff, Option.toList, List.cons_append, List.nil_append, List.drop_succ_cons, List.drop_zero, ax_t_642, ax_j_642_57, ax_n_642_57, e0]
    exact ⟨i1, i3, i4⟩
  · intro c hc2 ih v5 es1 i1 i3 i4
    obtain ⟨e1, -, -, e4⟩ := kx_ix (N := 4000) hc2 (by omega) (by decide)
    have j0 := i3.2.1
    have k0 := i1.1
    have hC1 := kC_fr hq hC i4
    obtain ⟨once, nm, code, a1, b1, a2, b2, c3, -⟩ := id hC1
    obtain ⟨hh, hh5, eh⟩ := hhs.2.2 ((T + c) % hc) (Nat.mod_lt _ hhs.1)
    simp only [ax_W_cons, ax_I, ax_cmp, ax_ii, ax_ll, ax_li, ax_st1, ax_st2, ax_kl, ax_k2, ax_fit, ax_rtok, List.getElem?_cons_zero, List.getElem?_cons_succ, List.length_cons, List.length_nil, List.set_cons_zero, List.set_cons_succ, Nat.reduceAdd, Nat.reduceDiv, Nat.reduceMod, Nat.reduceMul, Nat.reduceLT, Nat.reduceLeDiff, Int32.reduceOfInt, Int64.reduceOfInt, true_and, and_true, and_self, true_or, or_true, false_implies, true_implies, not_false_eq_true, not_true_eq_false, Value.category, Nat.reduceEqDiff, Option.toList, List.cons_append, List.nil_append, List.drop_succ_cons, List.drop_zero, ax_t_642, j0, k0, kb_o, hal, hq0, e1]
    refine ax_inv_eq (Nat.le_of_ble_eq_true rfl) (Nat.le_of_ble_eq_true rfl) (fun _ => ax_rcv_ok (by omega) c3) (fun h => absurd h (by decide)) (Nat.le_refl _) (Nat.le_refl _) (ck_heatAt (by omega) hal hhs.1 hhs.2.1 hC1 (by omega)) ?_
    simp only [ax_W_cons, ax_I, ax_cmp, ax_ii, ax_ll, ax_li, ax_st1, ax_st2, ax_kl, ax_k2, ax_fit, ax_rtok, List.getElem?_cons_zero, List.getElem?_cons_succ, List.length_cons, List.length_nil, List.set_cons_zero, List.set_cons_succ, Nat.reduceAdd, Nat.reduceDiv, Nat.reduceMod, Nat.reduceMul, Nat.reduceLT, Nat.reduceLeDiff, Int32.reduceOfInt, Int64.reduceOfInt, true_and, and_true, and_self, true_or, or_true, false_implies, true_implies, not_false_eq_true, not_true_eq_false, Value.category, Nat.reduceEqDiff, Option.toList, List.cons_append, List.nil_append, List.drop_succ_cons, List.drop_zero, ax_t_642]
    rw [eh]
    refine ax_inv_of (Nat.le_of_ble_eq_true rfl) (Nat.le_of_ble_eq_true rfl) (fun _ => ax_rcv_ok (by omega) k0) (fun h => absurd h (by decide)) (Nat.le_refl _) (Nat.le_refl _) (ax_Mt_mono (ck_ripple (by omega) hal hk hq (by omega) hh5 (ks_dr hk (kC_F hC) hsh c) hC1 i1 i3) ?_)
    rintro r es2 ⟨rfl, m1, m2, m3⟩
    have q0 := m1.1
    simp only [ax_W_cons, ax_I, ax_cmp, ax_ii, ax_ll, ax_li, ax_st1, ax_st2, ax_kl, ax_k2, ax_fit, ax_rtok, List.getElem?_cons_zero, List.getElem?_cons_succ, List.length_cons, List.length_nil, List.set_cons_zero, List.set_cons_succ, Nat.reduceAdd, Nat.reduceDiv, Nat.reduceMod, Nat.reduceMul, Nat.reduceLT, Nat.reduceLeDiff, Int32.reduceOfInt, Int64.reduceOfInt, true_and, and_true, and_self, true_or, or_true, false_implies, true_implies, not_false_eq_true, not_true_eq_false, Value.category, Nat.reduceEqDiff, Option.toList, List.cons_append, List.nil_append, List.drop_succ_cons, List.drop_zero, ax_t_642]
    refine ax_inv_of (Nat.le_of_ble_eq_true rfl) (Nat.le_of_ble_eq_true rfl) (fun _ => ax_rcv_ok (by omega) q0) (fun h => absurd h (by decide)) (Nat.le_refl _) (Nat.le_refl _) (ax_Mt_mono (ck_serve (by omega) hal hk hp hq hpl (kC_fr hq hC1 m3) m1 m2 (nI hh)) ?_)
    rintro r es3 ⟨rfl, m4, m5, m6⟩
    obtain ⟨-, y0, y1, y2, y3, x1, x2, x3⟩ := id m5
    have e5 : nI (T + c) + 1 = nI (T + (c + 1)) := (nI_succ (T + c)).symm
    simp only [ax_W_cons, ax_I, ax_cmp, ax_ii, ax_ll, ax_li, ax_st1, ax_st2, ax_kl, ax_k2, ax_fit, ax_rtok, List.getElem?_cons_zero, List.getElem?_cons_succ, List.length_cons, List.length_nil, List.set_cons_zero, List.set_cons_succ, Nat.reduceAdd, Nat.reduceDiv, Nat.reduceMod, Nat.reduceMul, Nat.reduceLT, Nat.reduceLeDiff, Int32.reduceOfInt, Int64.reduceOfInt, true_and, and_true, and_self, true_or, or_true, false_implies, true_implies, not_false_eq_true, not_true_eq_false, Value.category, Nat.reduceEqDiff, Option.toList, List.cons_append, List.nil_append, List.drop_succ_cons, List.drop_zero, ax_t_642, y0, kb_o, hal, hq0, e4, e5]
    rw [ax_j_642_5]
    have hup := kb_up0 m5 k p (nI (T + (c + 1))) cr
    unfold kb_o at hup
    rw [hup]
    rw [← eh] at x1 x3
    obtain ⟨p0, ⟨ps1, pg1, p1, p2⟩, ⟨ps2, pg2, p3, p4⟩, ⟨pah, p5, p6⟩, pfd, p7, p8⟩ := m4
    rw [← eh]
    refine ih _ _ ⟨?_, ⟨ps1, pg1, ?_, ?_⟩, ⟨ps2, pg2, ?_, ?_⟩, ⟨pah, ?_, p6⟩, pfd, ?_, p8⟩ (kw_kb (by omega) x1 x2 x3) (kfr_trans (kfr_trans (kfr_trans i4 m3) m6) (fun j hj => kw_ne _ _ _ _ _ _ _ _ hj.2.2.2.2.2.2))
    · rw [kw_ne _ _ _ _ _ _ _ _ (by omega)]; exact p0
    · rw [kw_ne _ _ _ _ _ _ _ _ (by omega)]; exact p1
    · rw [kw_ne _ _ _ _ _ _ _ _ (by omega)]; exact p2
    · rw [kw_ne _ _ _ _ _ _ _ _ (by omega)]; exact p3
    · rw [kw_ne _ _ _ _ _ _ _ _ (by omega)]; exact p4
    · rw [kw_ne _ _ _ _ _ _ _ _ (by omega)]; exact p5
    · rw [kw_ne _ _ _ _ _ _ _ _ (by omega)]; exact p7
end KP
