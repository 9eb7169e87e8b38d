/-! Seer: tries -/
def kx_find (P : Nat → Bool) : Nat → Nat → Option Nat
  | 0, _ => none
  | f + 1, c => if P c = true then some c else kx_find P f (c + 1)
def kx_find2 (k : Nat) (P : Nat → Nat → Bool) : Nat → Nat → Option (Nat × Nat)
  | 0, _ => none
  | g + 1, f => match kx_find (P f) k 0 with
    | some w => some (f, w)
    | none => kx_find2 k P g (f + 1)
def kx_nud (r : Option (Nat × Nat)) (what : Int32) : Int32 := match r with
  | some (f, w) => if what = 0 then nI f else nI w
  | none => -1
/-- the best by the least of V: where, and how much -/
def kx_bfk (ok : Nat → Bool) (V : Nat → Int32) : Nat → Int32 × Int32
  | 0 => (-1, 0)
  | m + 1 => if ok m = true ∧ ((kx_bfk ok V m).1 = -1 ∨ V m < (kx_bfk ok V m).2) then (nI m, V m) else kx_bfk ok V m
def kx_bp (V : Nat → Int32) : Nat → Int32 × Int32
  | 0 => (-1, 0)
  | m + 1 => if (kx_bp V m).1 = -1 ∨ (kx_bp V m).2 < V m then (nI m, V m) else kx_bp V m
/-- most and found, over the second of a pair -/
def kx_bc1 (V : Nat → Nat → Int32) (i : Nat) (a : Int32 × Int32) : Nat → Int32 × Int32
  | 0 => a
  | m + 1 => if (kx_bc1 V i a m).1 < V i (i + 1 + m) then (V i (i + 1 + m), 8 * nI i + nI (i + 1 + m)) else kx_bc1 V i a m
def kx_bc (V : Nat → Nat → Int32) (p : Nat) (a : Int32) : Nat → Int32 × Int32
  | 0 => (a, -1)
  | m + 1 => kx_bc1 V m (kx_bc V p a m) (p - (m + 1))
theorem ks_push {sh : Nat → Int32} {w f : Nat} (h : ks sh) (hw : w < 12) (hf : f ≤ 20) : ks (kx_push sh (nI w) (nI f)) := by
  intro i hi
  unfold kx_push upd
  rw [nI_clamp (by omega)]
  by_cases hiw : i = w
  · rw [if_pos hiw]
    obtain ⟨v, hv, ev⟩ := h w hw
    rw [ev, kn_add]
    unfold kx_min
    split
    · next hlt =>
      refine ⟨v + f, ?_, rfl⟩
      rw [Int32.lt_iff_toInt_lt, nI_toInt (by omega)] at hlt
      have e99 : (99 : Int32).toInt = 99 := rfl
      omega
    · exact ⟨99, by omega, rfl⟩
  · rw [if_neg hiw]
    exact h i hi
theorem ks_zero {sh : Nat → Int32} {w : Nat} (h : ks sh) : ks (upd sh w 0) := by
  intro i hi
  unfold upd
  split
  · exact ⟨0, by omega, rfl⟩
  · exact h i hi
theorem kz_push {sh : Nat → Int32} {w : Nat} {f : Int32} (h : kz 12 sh) (hw : w < 12) : kz 12 (kx_push sh (nI w) f) := by
  unfold kx_push
  exact kz_upd h (by rw [nI_clamp (by omega)]; exact hw)
section KS
variable {d n sl k p hc : Nat} {es : ax_H} {kd pl0 ht hs : Nat → Int32} {F1 F2 : Int32 → Int32 → Int32 → Int32 → Int32} {T : Nat} {cr : Int32} {sh pl dn : Nat → Int32}
theorem ck_tryTouch (hd : 2 ≤ d) (hS : kSe es n F1) (hW : kW es n k p hc kd pl0 ht hs F1 F2 T cr sh pl dn) {w f : Nat} (hw : w < 12) : ax_Mt d 1031 [.ref 149, .int (nI w), .int (nI f)] n sl es (fun r es' => r = none ∧ kT es' n F1 k p T cr (kx_push sh (nI w) (nI f)) pl dn ∧ ksf es es') := by
  obtain ⟨d, rfl⟩ : ∃ z, d = z + 1 := ⟨d - 1, by omega⟩
  obtain ⟨hal, hk, hp, hhs, hsh, hpl, hT, hC, hb⟩ := id hW
  obtain ⟨dr, h149⟩ := hS.2.1.1
  have e2 : vp_in (nI w) 12 := nI_in hw (by decide)
  refine ax_Mt_start (m := ax_m_8_7) (ls := [some (.ref 149), some (.int (nI w)), some (.int (nI f))]) rfl ax_b_1031_0 (Nat.le_of_ble_eq_true rfl) rfl ?_
  simp only [ax_W_cons, ax_I, ax_cmp, ax_ii, ax_ll, ax_li, ax_st1, ax_st2, ax_kl, ax_k2, ax_fit, ax_rtok, List.getElem?_cons_zero, List.getElem?_cons_succ, List.length_cons, List.length_nil, List.set_cons_zero, List.set_cons_succ, Nat.reduceAdd, Nat.reduceDiv, Nat.reduceMod, Nat.reduceMul, Nat.reduceLT, Nat.reduceLeDiff, Int32.reduceOfInt, Int64.reduceOfInt, true_and, and_true, and_self, true_or, or_true, false_implies, true_implies, not_false_eq_true, not_true_eq_false, Value.category, Nat.reduceEqDiff, Option.toList, List.cons_append, List.nil_append, List.drop_succ_cons, List.drop_zero, ax_t_1031, h149, hal]
  refine ax_inv_of (Nat.le_of_ble_eq_true rfl) (Nat.le_of_ble_eq_true rfl) (fun _ => kSe_rcv hal hS _) (fun h => absurd h (by decide)) (Nat.le_refl _) (Nat.le_refl _) (ax_Mt_mono (cs_copyW (by omega) hS hW) ?_)
  rintro r es2 ⟨rfl, m1, m2⟩
  obtain ⟨dr2, q149⟩ := m1.2.1.1
  simp only [ax_W_cons, ax_I, ax_cmp, ax_ii, ax_ll, ax_li, ax_st1, ax_st2, ax_kl, ax_k2, ax_fit, ax_rtok, List.getElem?_cons_zero, List.getElem?_cons_succ, List.length_cons, List.length_nil, List.set_cons_zero, List.set_cons_succ, Nat.reduceAdd, Nat.reduceDiv, Nat.reduceMod, Nat.reduceMul, Nat.reduceLT, Nat.reduceLeDiff, Int32.reduceOfInt, Int64.reduceOfInt, true_and, and_true, and_self, true_or, or_true, false_implies, true_implies, not_false_eq_true, not_true_eq_false, Value.category, Nat.reduceEqDiff, Option.toList, List.cons_append, List.nil_append, List.drop_succ_cons, List.drop_zero, ax_t_1031, q149, hal]
  refine ax_inv_eq (Nat.le_of_ble_eq_true rfl) (Nat.le_of_ble_eq_true rfl) (fun _ => kSe_rcv hal (kT_kSe m1) _) (fun h => absurd h (by decide)) (Nat.le_refl _) (Nat.le_refl _) (ck_push (by omega) m1.2.2 (nI w) (nI f) e2) ?_
  simp only [ax_W_cons, ax_I, ax_cmp, ax_ii, ax_ll, ax_li, ax_st1, ax_st2, ax_kl, ax_k2, ax_fit, ax_rtok, List.getElem?_cons_zero, List.getElem?_cons_succ, List.length_cons, List.length_nil, List.set_cons_zero, List.set_cons_succ, Nat.reduceAdd, Nat.reduceDiv, Nat.reduceMod, Nat.reduceMul, Nat.reduceLT, Nat.reduceLeDiff, Int32.reduceOfInt, Int64.reduceOfInt, true_and, and_true, and_self, true_or, or_true, false_implies, true_implies, not_false_eq_true, not_true_eq_false, Value.category, Nat.reduceEqDiff, Option.toList, List.cons_append, List.nil_append, List.drop_succ_cons, List.drop_zero, ax_t_1031]
  obtain ⟨-, -, -, -, -, z1, z2, z3⟩ := m1.2.2
  have h9 := kT_kw (k := k) (p := p) (T := T) (cr := cr) (sh := kx_push sh (nI w) (nI f)) (pl := pl) (dn := dn) hal m1.1 m1.2.1 (kz_push z1 hw) z2 z3
  exact ⟨h9.1, ksf_trans m2 h9.2⟩
theorem ck_leastTouch (hd : 6 ≤ d) (hS : kSe es n F1) (hW : kW es n k p hc kd pl0 ht hs F1 F2 T cr sh pl dn) {c m : Nat} (hc2 : c < 12) (hm : m ≤ 100) (x what : Int32) : ax_Mt d 1030 [.ref 149, .int (nI c), .int (nI m), .int x, .int what] n sl es (fun r es' => r = some (.int (kx_nud (kx_find2 k (fun f w => !kx_ck cr (nI w) && decide (x ≤ kx_dr F1 k cr hs hc T (kx_push sh (nI w) (nI f)) m c)) 20 1) what)) ∧ kSe es' n F1 ∧ ksf es es') := by
  obtain ⟨d, rfl⟩ : ∃ z, d = z + 1 := ⟨d - 1, by omega⟩
  obtain ⟨hal, hk, hp, hhs, hsh, hpl, hT, hC, hb⟩ := id hW
  have e2 : vp_in (nI c) 12 := nI_in hc2 (by decide)
  have e3 : (nI c).toNatClampNeg = c := nI_clamp (by omega)
  refine ax_Mt_start (m := ax_m_8_6) (ls := [some (.ref 149), some (.int (nI c)), some (.int (nI m)), some (.int x), some (.int what), none, none]) rfl ax_b_1030_0 (Nat.le_of_ble_eq_true rfl) rfl ?_
  simp only [ax_W_cons, ax_I, ax_cmp, ax_ii, ax_ll, ax_li, ax_st1, ax_st2, ax_kl, ax_k2, ax_fit, ax_rtok, List.getElem?_cons_zero, List.getElem?_cons_succ, List.length_cons, List.length_nil, List.set_cons_zero, List.set_cons_succ, Nat.reduceAdd, Nat.reduceDiv, Nat.reduceMod, Nat.reduceMul, Nat.reduceLT, Nat.reduceLeDiff, Int32.reduceOfInt, Int64.reduceOfInt, true_and, and_true, and_self, true_or, or_true, false_implies, true_implies, not_false_eq_true, not_true_eq_false, Value.category, Nat.reduceEqDiff, Option.toList, List.cons_append, List.nil_append, List.drop_succ_cons, List.drop_zero, ax_t_1030]
  rw [ax_n_1030_3]
  have L := kx_down (k := 21) (I := fun g f => 1 ≤ f → ∀ v es1, kSe es1 n F1 → ksf es es1 → ax_W (d + 1) n sl 1030 [(2, .iload 5), (2, .iconst 20), (3, .if_icmp .gt 98), (1, .iconst 0), (2, .istore 6)] 3 [some (.ref 149), some (.int (nI c)), some (.int (nI m)), some (.int x), some (.int what), some (.int (nI f)), v] [] n sl es1 (fun r n' sl' es' => n' = n ∧ sl' = sl ∧ r = some (.int (kx_nud (kx_find2 k (fun f w => !kx_ck cr (nI w) && decide (x ≤ kx_dr F1 k cr hs hc T (kx_push sh (nI w) (nI f)) m c)) g f) what)) ∧ kSe es' n F1 ∧ ksf es es')) ?_ ?_ 20 1 rfl (Nat.le_refl _)
  · exact L none es hS (ksf_rf es)
  · intro _ v es1 i1 i2
    have e1 : (20 : Int32) < nI 21 := by decide
    simp only [ax_W_cons, ax_I, ax_cmp, ax_ii, ax_ll, ax_li, ax_st1, ax_st2, ax_kl, ax_k2, ax_fit, ax_rtok, List.getElem?_cons_zero, List.getElem?_cons_succ, List.length_cons, List.length_nil, List.set_cons_zero, List.set_cons_succ, Nat.reduceAdd, Nat.reduceDiv, Nat.reduceMod, Nat.reduceMul, Nat.reduceLT, Nat.reduceLeDiff, Int32.reduceOfInt, Int64.reduceOfInt, true_and, and_true, and_self, true_or, or_true, false_implies, true_implies, not_false_eq_true, not_true_eq_false, Value.category, Nat.reduceEqDiff, Option.toList, List.cons_append, List.nil_append, List.drop_succ_cons, List.drop_zero, ax_t_1030, ax_j_1030_98, ax_n_1030_98, e1]
    exact ⟨rfl, i1, i2⟩
  · intro g f hgf ih hf1 v es1 i1 i2
    have e1 : ¬ (20 : Int32) < nI f := nI_nlt (a := 20) (by omega) (by decide)
    simp only [ax_W_cons, ax_I, ax_cmp, ax_ii, ax_ll, ax_li, ax_st1, ax_st2, ax_kl, ax_k2, ax_fit, ax_rtok, List.getElem?_cons_zero, List.getElem?_cons_succ, List.length_cons, List.length_nil, List.set_cons_zero, List.set_cons_succ, Nat.reduceAdd, Nat.reduceDiv, Nat.reduceMod, Nat.reduceMul, Nat.reduceLT, Nat.reduceLeDiff, Int32.reduceOfInt, Int64.reduceOfInt, true_and, and_true, and_self, true_or, or_true, false_implies, true_implies, not_false_eq_true, not_true_eq_false, Value.category, Nat.reduceEqDiff, Option.toList, List.cons_append, List.nil_append, List.drop_succ_cons, List.drop_zero, ax_t_1030, e1]
    rw [ax_n_1030_13]
    have L2 := kx_down (k := k) (I := fun z w => (∀ r, kx_find (fun w => !kx_ck cr (nI w) && decide (x ≤ kx_dr F1 k cr hs hc T (kx_push sh (nI w) (nI f)) m c)) z w = r → kx_find (fun w => !kx_ck cr (nI w) && decide (x ≤ kx_dr F1 k cr hs hc T (kx_push sh (nI w) (nI f)) m c)) k 0 = r) → ∀ es1, kSe es1 n F1 → ksf es es1 → ax_W (d + 1) n sl 1030 [(2, .iload 6), (1, .aload 0), (3, .getfield 2054), (3, .getfield 0), (3, .if_icmp .ge 92), (1, .aload 0), (3, .getfield 2054), (2, .iload 6), (3, .invokeinterface 4 9), (3, .ifCond .eq 40), (3, .goto 86)] 13 [some (.ref 149), some (.int (nI c)), some (.int (nI m)), some (.int x), some (.int what), some (.int (nI f)), some (.int (nI w))] [] n sl es1 (fun r n' sl' es' => n' = n ∧ sl' = sl ∧ r = some (.int (kx_nud (kx_find2 k (fun f w => !kx_ck cr (nI w) && decide (x ≤ kx_dr F1 k cr hs hc T (kx_push sh (nI w) (nI f)) m c)) (g + 1) f) what)) ∧ kSe es' n F1 ∧ ksf es es')) ?_ ?_ k 0 (by omega) (fun r h => h)
    · exact L2 es1 i1 i2
    · intro hr es1 i1 i2
      obtain ⟨dr1, w149⟩ := i1.2.1.1
      obtain ⟨-, v0, -⟩ := kb_sf (by omega) hb i2
      have e0 := kx_nn (k := k) (by omega)
      have e4 : nI f + 1 = nI (f + 1) := (nI_succ f).symm
      simp only [ax_W_cons, ax_I, ax_cmp, ax_ii, ax_ll, ax_li, ax_st1, ax_st2, ax_kl, ax_k2, ax_fit, ax_rtok, List.getElem?_cons_zero, List.getElem?_cons_succ, List.length_cons, List.length_nil, List.set_cons_zero, List.set_cons_succ, Nat.reduceAdd, Nat.reduceDiv, Nat.reduceMod, Nat.reduceMul, Nat.reduceLT, Nat.reduceLeDiff, Int32.reduceOfInt, Int64.reduceOfInt, true_and, and_true, and_self, true_or, or_true, false_implies, true_implies, not_false_eq_true, not_true_eq_false, Value.category, Nat.reduceEqDiff, Option.toList, List.cons_append, List.nil_append, List.drop_succ_cons, List.drop_zero, ax_t_1030, ax_j_1030_92, ax_n_1030_92, w149, v0, kb_o, hal, e0, e4]
      rw [ax_j_1030_3]
      have h9 := hr none rfl
      rw [kx_find2, h9]
      exact ih (by omega) _ es1 i1 i2
    · intro z w hzw ih2 hr es1 i1 i2
      obtain ⟨f1, f2, f3, f4⟩ := kx_ix (c := w) (k := k) (by omega) hk.2 (by decide)
      obtain ⟨dr1, w149⟩ := i1.2.1.1
      have hb1 := kb_sf (by omega) hb i2
      obtain ⟨-, v0, -⟩ := id hb1
      have next : ∀ es3, kSe es3 n F1 → ksf es es3 → (!kx_ck cr (nI w) && decide (x ≤ kx_dr F1 k cr hs hc T (kx_push sh (nI w) (nI f)) m c)) = false → ax_J ax_W (d + 1) n sl 1030 86 [some (.ref 149), some (.int (nI c)), some (.int (nI m)), some (.int x), some (.int what), some (.int (nI f)), some (.int (nI w))] [] n sl es3 (fun r n' sl' es' => n' = n ∧ sl' = sl ∧ r = some (.int (kx_nud (kx_find2 k (fun f w => !kx_ck cr (nI w) && decide (x ≤ kx_dr F1 k cr hs hc T (kx_push sh (nI w) (nI f)) m c)) (g + 1) f) what)) ∧ kSe es' n F1 ∧ ksf es es') := by
        intro es3 j1 j2 hno
        simp only [ax_W_cons, ax_I, ax_cmp, ax_ii, ax_ll, ax_li, ax_st1, ax_st2, ax_kl, ax_k2, ax_fit, ax_rtok, List.getElem?_cons_zero, List.getElem?_cons_succ, List.length_cons, List.length_nil, List.set_cons_zero, List.set_cons_succ, Nat.reduceAdd, Nat.reduceDiv, Nat.reduceMod, Nat.reduceMul, Nat.reduceLT, Nat.reduceLeDiff, Int32.reduceOfInt, Int64.reduceOfInt, true_and, and_true, and_self, true_or, or_true, false_implies, true_implies, not_false_eq_true, not_true_eq_false, Value.category, Nat.reduceEqDiff, Option.toList, List.cons_append, List.nil_append, List.drop_succ_cons, List.drop_zero, ax_t_1030, ax_j_1030_86, ax_n_1030_86, f4]
        rw [ax_j_1030_13]
        refine ih2 (fun r h => hr r ?_) es3 j1 j2
        rw [kx_find, if_neg (by rw [hno]; decide)]
        exact h
      simp only [ax_W_cons, ax_I, ax_cmp, ax_ii, ax_ll, ax_li, ax_st1, ax_st2, ax_kl, ax_k2, ax_fit, ax_rtok, List.getElem?_cons_zero, List.getElem?_cons_succ, List.length_cons, List.length_nil, List.set_cons_zero, List.set_cons_succ, Nat.reduceAdd, Nat.reduceDiv, Nat.reduceMod, Nat.reduceMul, Nat.reduceLT, Nat.reduceLeDiff, Int32.reduceOfInt, Int64.reduceOfInt, true_and, and_true, and_self, true_or, or_true, false_implies, true_implies, not_false_eq_true, not_true_eq_false, Value.category, Nat.reduceEqDiff, Option.toList, List.cons_append, List.nil_append, List.drop_succ_cons, List.drop_zero, ax_t_1030, w149, v0, kb_o, hal, f1]
      refine ax_inv_eq (Nat.le_of_ble_eq_true rfl) (Nat.le_of_ble_eq_true rfl) (fun _ => ax_rcv_ok (by omega) v0) (fun h => absurd h (by decide)) (Nat.le_refl _) (Nat.le_refl _) (ck_isCracked hb1 (nI w)) ?_
      simp only [ax_W_cons, ax_I, ax_cmp, ax_ii, ax_ll, ax_li, ax_st1, ax_st2, ax_kl, ax_k2, ax_fit, ax_rtok, List.getElem?_cons_zero, List.getElem?_cons_succ, List.length_cons, List.length_nil, List.set_cons_zero, List.set_cons_succ, Nat.reduceAdd, Nat.reduceDiv, Nat.reduceMod, Nat.reduceMul, Nat.reduceLT, Nat.reduceLeDiff, Int32.reduceOfInt, Int64.reduceOfInt, true_and, and_true, and_self, true_or, or_true, false_implies, true_implies, not_false_eq_true, not_true_eq_false, Value.category, Nat.reduceEqDiff, Option.toList, List.cons_append, List.nil_append, List.drop_succ_cons, List.drop_zero, ax_t_1030, kx_b0]
      refine ⟨fun hcr => ?_, fun hcr => ?_⟩
      · simp only [ax_W_cons, ax_I, ax_cmp, ax_ii, ax_ll, ax_li, ax_st1, ax_st2, ax_kl, ax_k2, ax_fit, ax_rtok, List.getElem?_cons_zero, List.getElem?_cons_succ, List.length_cons, List.length_nil, List.set_cons_zero, List.set_cons_succ, Nat.reduceAdd, Nat.reduceDiv, Nat.reduceMod, Nat.reduceMul, Nat.reduceLT, Nat.reduceLeDiff, Int32.reduceOfInt, Int64.reduceOfInt, true_and, and_true, and_self, true_or, or_true, false_implies, true_implies, not_false_eq_true, not_true_eq_false, Value.category, Nat.reduceEqDiff, Option.toList, List.cons_append, List.nil_append, List.drop_succ_cons, List.drop_zero, ax_t_1030, ax_j_1030_40, ax_n_1030_40]
        refine ax_inv_of (Nat.le_of_ble_eq_true rfl) (Nat.le_of_ble_eq_true rfl) (fun _ => ax_rcv_ok (by omega) w149) (fun h => absurd h (by decide)) (Nat.le_refl _) (Nat.le_refl _) (ax_Mt_mono (ck_tryTouch (f := f) (by omega) i1 (kW_sf hW i2) (by omega)) ?_)
        rintro r es4 ⟨rfl, m3, m4⟩
        obtain ⟨dr4, x149⟩ := m3.2.1.1
        have i4 := ksf_trans i2 m4
        simp only [ax_W_cons, ax_I, ax_cmp, ax_ii, ax_ll, ax_li, ax_st1, ax_st2, ax_kl, ax_k2, ax_fit, ax_rtok, List.getElem?_cons_zero, List.getElem?_cons_succ, List.length_cons, List.length_nil, List.set_cons_zero, List.set_cons_succ, Nat.reduceAdd, Nat.reduceDiv, Nat.reduceMod, Nat.reduceMul, Nat.reduceLT, Nat.reduceLeDiff, Int32.reduceOfInt, Int64.reduceOfInt, true_and, and_true, and_self, true_or, or_true, false_implies, true_implies, not_false_eq_true, not_true_eq_false, Value.category, Nat.reduceEqDiff, Option.toList, List.cons_append, List.nil_append, List.drop_succ_cons, List.drop_zero, ax_t_1030, x149, hal]
        refine ax_inv_of (Nat.le_of_ble_eq_true rfl) (Nat.le_of_ble_eq_true rfl) (fun _ => kR_rcv hal m3.1 _) (fun h => absurd h (by decide)) (Nat.le_refl _) (Nat.le_refl _) (ax_Mt_mono (cs_drift (m := m) (by omega) hal hk.2 (by omega) hhs (ks_push hsh (by omega) (by omega)) (kC_sf hC i4) m3) ?_)
        rintro r es5 ⟨rfl, m5, m6⟩
        obtain ⟨dr5, y149⟩ := m5.2.1.1
        have y0 := m5.2.2.2.1
        have y1 := m5.2.2.2.2.1
        have i5 := ksf_trans i4 m6
        simp only [ax_W_cons, ax_I, ax_cmp, ax_ii, ax_ll, ax_li, ax_st1, ax_st2, ax_kl, ax_k2, ax_fit, ax_rtok, List.getElem?_cons_zero, List.getElem?_cons_succ, List.length_cons, List.length_nil, List.set_cons_zero, List.set_cons_succ, Nat.reduceAdd, Nat.reduceDiv, Nat.reduceMod, Nat.reduceMul, Nat.reduceLT, Nat.reduceLeDiff, Int32.reduceOfInt, Int64.reduceOfInt, true_and, and_true, and_self, true_or, or_true, false_implies, true_implies, not_false_eq_true, not_true_eq_false, Value.category, Nat.reduceEqDiff, Option.toList, List.cons_append, List.nil_append, List.drop_succ_cons, List.drop_zero, ax_t_1030, y149, y0, y1, kb_o, kb_a, hal, e2, e3]
        refine ⟨fun hlt => ?_, fun hlt => ?_⟩
        · refine next es5 (kT_kSe m5) i5 ?_
          have := kx_lt_nle hlt
          simp [this]
        · rw [kx_nlt] at hlt
          have h9 := hr (some w) (by rw [kx_find, if_pos (by simp [hcr, hlt])])
          rw [kx_find2, h9]
          simp only [ax_W_cons, ax_I, ax_cmp, ax_ii, ax_ll, ax_li, ax_st1, ax_st2, ax_kl, ax_k2, ax_fit, ax_rtok, List.getElem?_cons_zero, List.getElem?_cons_succ, List.length_cons, List.length_nil, List.set_cons_zero, List.set_cons_succ, Nat.reduceAdd, Nat.reduceDiv, Nat.reduceMod, Nat.reduceMul, Nat.reduceLT, Nat.reduceLeDiff, Int32.reduceOfInt, Int64.reduceOfInt, true_and, and_true, and_self, true_or, or_true, false_implies, true_implies, not_false_eq_true, not_true_eq_false, Value.category, Nat.reduceEqDiff, Option.toList, List.cons_append, List.nil_append, List.drop_succ_cons, List.drop_zero, ax_t_1030, ax_j_1030_83, ax_n_1030_83, ax_j_1030_85, ax_n_1030_85]
          refine ⟨fun hw => ?_, fun hw => ?_⟩
          · exact ⟨by simp [kx_nud, hw], kT_kSe m5, i5⟩
          · simp only [Classical.not_not] at hw
            exact ⟨by simp [kx_nud, hw], kT_kSe m5, i5⟩
      · refine next es1 i1 i2 ?_
        simp at hcr
        simp [hcr]
theorem ck_bestFork (hd : 6 ≤ d) (hS : kSe es n F1) (hW : kW es n k p hc kd pl0 ht hs F1 F2 T cr sh pl dn) {i : Nat} (hi : i < 6) : ax_Mt d 1032 [.ref 149, .int (nI i)] n sl es (fun r es' => r = some (.int (kx_bfk (fun w => !kx_ck cr (nI w)) (fun w => kx_pdn (kx_dd F1 F2 k kd ht (kx_crack cr (nI w)) hs hc T (upd sh w 0) pl) p dn 20 i) k).1) ∧ kSe es' n F1 ∧ ksf es es') := by
  obtain ⟨d, rfl⟩ : ∃ z, d = z + 1 := ⟨d - 1, by omega⟩
  obtain ⟨hal, hk, hp, hhs, hsh, hpl, hT, hC, hb⟩ := id hW
  have e2 : vp_in (nI i) 6 := nI_in hi (by decide)
  have e3 : (nI i).toNatClampNeg = i := nI_clamp (by omega)
  refine ax_Mt_start (m := ax_m_8_8) (ls := [some (.ref 149), some (.int (nI i)), none, none, none]) rfl ax_b_1032_0 (Nat.le_of_ble_eq_true rfl) rfl ?_
  simp only [ax_W_cons, ax_I, ax_cmp, ax_ii, ax_ll, ax_li, ax_st1, ax_st2, ax_kl, ax_k2, ax_fit, ax_rtok, List.getElem?_cons_zero, List.getElem?_cons_succ, List.length_cons, List.length_nil, List.set_cons_zero, List.set_cons_succ, Nat.reduceAdd, Nat.reduceDiv, Nat.reduceMod, Nat.reduceMul, Nat.reduceLT, Nat.reduceLeDiff, Int32.reduceOfInt, Int64.reduceOfInt, true_and, and_true, and_self, true_or, or_true, false_implies, true_implies, not_false_eq_true, not_true_eq_false, Value.category, Nat.reduceEqDiff, Option.toList, List.cons_append, List.nil_append, List.drop_succ_cons, List.drop_zero, ax_t_1032]
  rw [ax_n_1032_7]
  have L := kx_loop (k := k) (I := fun w => ∀ es1, kSe es1 n F1 → ksf es es1 → ax_W (d + 1) n sl 1032 [(2, .iload 4), (1, .aload 0), (3, .getfield 2054), (3, .getfield 0), (3, .if_icmp .ge 105), (1, .aload 0), (3, .getfield 2054), (2, .iload 4), (3, .invokeinterface 4 9), (3, .ifCond .eq 34), (3, .goto 99)] 7 [some (.ref 149), some (.int (nI i)), some (.int (kx_bfk (fun w => !kx_ck cr (nI w)) (fun w => kx_pdn (kx_dd F1 F2 k kd ht (kx_crack cr (nI w)) hs hc T (upd sh w 0) pl) p dn 20 i) w).1), some (.int (kx_bfk (fun w => !kx_ck cr (nI w)) (fun w => kx_pdn (kx_dd F1 F2 k kd ht (kx_crack cr (nI w)) hs hc T (upd sh w 0) pl) p dn 20 i) w).2), some (.int (nI w))] [] n sl es1 (fun r n' sl' es' => n' = n ∧ sl' = sl ∧ r = some (.int (kx_bfk (fun w => !kx_ck cr (nI w)) (fun w => kx_pdn (kx_dd F1 F2 k kd ht (kx_crack cr (nI w)) hs hc T (upd sh w 0) pl) p dn 20 i) k).1) ∧ kSe es' n F1 ∧ ksf es es')) ?_ ?_
  · exact L es hS (ksf_rf es)
  · intro es1 i1 i2
    obtain ⟨dr1, w149⟩ := i1.2.1.1
    obtain ⟨-, v0, -⟩ := kb_sf (by omega) hb i2
    have e0 := kx_nn (k := k) (by omega)
    simp only [ax_W_cons, ax_I, ax_cmp, ax_ii, ax_ll, ax_li, ax_st1, ax_st2, ax_kl, ax_k2, ax_fit, ax_rtok, List.getElem?_cons_zero, List.getElem?_cons_succ, List.length_cons, List.length_nil, List.set_cons_zero, List.set_cons_succ, Nat.reduceAdd, Nat.reduceDiv, Nat.reduceMod, Nat.reduceMul, Nat.reduceLT, Nat.reduceLeDiff, Int32.reduceOfInt, Int64.reduceOfInt, true_and, and_true, and_self, true_or, or_true, false_implies, true_implies, not_false_eq_true, not_true_eq_false, Value.category, Nat.reduceEqDiff, Option.toList, List.cons_append, List.nil_append, List.drop_succ_cons, List.drop_zero, ax_t_1032, ax_j_1032_105, ax_n_1032_105, w149, v0, kb_o, hal, e0]
    exact ⟨i1, i2⟩
  · intro w hw ih es1 i1 i2
    obtain ⟨f1, f2, f3, f4⟩ := kx_ix hw hk.2 (by decide)
    obtain ⟨dr1, w149⟩ := i1.2.1.1
    have hb1 := kb_sf (by omega) hb i2
    obtain ⟨-, v0, -⟩ := id hb1
    simp only [ax_W_cons, ax_I, ax_cmp, ax_ii, ax_ll, ax_li, ax_st1, ax_st2, ax_kl, ax_k2, ax_fit, ax_rtok, List.getElem?_cons_zero, List.getElem?_cons_succ, List.length_cons, List.length_nil, List.set_cons_zero, List.set_cons_succ, Nat.reduceAdd, Nat.reduceDiv, Nat.reduceMod, Nat.reduceMul, Nat.reduceLT, Nat.reduceLeDiff, Int32.reduceOfInt, Int64.reduceOfInt, true_and, and_true, and_self, true_or, or_true, false_implies, true_implies, not_false_eq_true, not_true_eq_false, Value.category, Nat.reduceEqDiff, Option.toList, List.cons_append, List.nil_append, List.drop_succ_cons, List.drop_zero, ax_t_1032, w149, v0, kb_o, hal, f1]
    refine ax_inv_eq (Nat.le_of_ble_eq_true rfl) (Nat.le_of_ble_eq_true rfl) (fun _ => ax_rcv_ok (by omega) v0) (fun h => absurd h (by decide)) (Nat.le_refl _) (Nat.le_refl _) (ck_isCracked hb1 (nI w)) ?_
    simp only [ax_W_cons, ax_I, ax_cmp, ax_ii, ax_ll, ax_li, ax_st1, ax_st2, ax_kl, ax_k2, ax_fit, ax_rtok, List.getElem?_cons_zero, List.getElem?_cons_succ, List.length_cons, List.length_nil, List.set_cons_zero, List.set_cons_succ, Nat.reduceAdd, Nat.reduceDiv, Nat.reduceMod, Nat.reduceMul, Nat.reduceLT, Nat.reduceLeDiff, Int32.reduceOfInt, Int64.reduceOfInt, true_and, and_true, and_self, true_or, or_true, false_implies, true_implies, not_false_eq_true, not_true_eq_false, Value.category, Nat.reduceEqDiff, Option.toList, List.cons_append, List.nil_append, List.drop_succ_cons, List.drop_zero, ax_t_1032, kx_b0]
    refine ⟨fun hcr => ?_, fun hcr => ?_⟩
    · simp only [ax_W_cons, ax_I, ax_cmp, ax_ii, ax_ll, ax_li, ax_st1, ax_st2, ax_kl, ax_k2, ax_fit, ax_rtok, List.getElem?_cons_zero, List.getElem?_cons_succ, List.length_cons, List.length_nil, List.set_cons_zero, List.set_cons_succ, Nat.reduceAdd, Nat.reduceDiv, Nat.reduceMod, Nat.reduceMul, Nat.reduceLT, Nat.reduceLeDiff, Int32.reduceOfInt, Int64.reduceOfInt, true_and, and_true, and_self, true_or, or_true, false_implies, true_implies, not_false_eq_true, not_true_eq_false, Value.category, Nat.reduceEqDiff, Option.toList, List.cons_append, List.nil_append, List.drop_succ_cons, List.drop_zero, ax_t_1032, ax_j_1032_34, ax_n_1032_34, w149, hal]
      refine ax_inv_of (Nat.le_of_ble_eq_true rfl) (Nat.le_of_ble_eq_true rfl) (fun _ => kSe_rcv hal i1 _) (fun h => absurd h (by decide)) (Nat.le_refl _) (Nat.le_refl _) (ax_Mt_mono (cs_copyW (by omega) i1 (kW_sf hW i2)) ?_)
      rintro r es4 ⟨rfl, m1, m2⟩
      obtain ⟨dr4, x149⟩ := m1.2.1.1
      simp only [ax_W_cons, ax_I, ax_cmp, ax_ii, ax_ll, ax_li, ax_st1, ax_st2, ax_kl, ax_k2, ax_fit, ax_rtok, List.getElem?_cons_zero, List.getElem?_cons_succ, List.length_cons, List.length_nil, List.set_cons_zero, List.set_cons_succ, Nat.reduceAdd, Nat.reduceDiv, Nat.reduceMod, Nat.reduceMul, Nat.reduceLT, Nat.reduceLeDiff, Int32.reduceOfInt, Int64.reduceOfInt, true_and, and_true, and_self, true_or, or_true, false_implies, true_implies, not_false_eq_true, not_true_eq_false, Value.category, Nat.reduceEqDiff, Option.toList, List.cons_append, List.nil_append, List.drop_succ_cons, List.drop_zero, ax_t_1032, x149, hal]
      refine ax_inv_eq (Nat.le_of_ble_eq_true rfl) (Nat.le_of_ble_eq_true rfl) (fun _ => kSe_rcv hal (kT_kSe m1) _) (fun h => absurd h (by decide)) (Nat.le_refl _) (Nat.le_refl _) (ck_crack m1.2.2 (nI w) f2) ?_
      rw [f3]
      obtain ⟨-, -, -, -, -, z1, z2, z3⟩ := m1.2.2
      obtain ⟨m3, m4⟩ := kT_kw (k := k) (p := p) (T := T) (cr := kx_crack cr (nI w)) (sh := upd sh w 0) (pl := pl) (dn := dn) hal m1.1 m1.2.1 (kz_upd z1 (by omega)) z2 z3
      generalize kw es4 150 k p (nI T) (kx_crack cr (nI w)) (upd sh w 0) pl dn = es5 at m3 m4 ⊢
      obtain ⟨dr5, y149⟩ := m3.2.1.1
      have i5 := ksf_trans (ksf_trans i2 m2) m4
      simp only [ax_W_cons, ax_I, ax_cmp, ax_ii, ax_ll, ax_li, ax_st1, ax_st2, ax_kl, ax_k2, ax_fit, ax_rtok, List.getElem?_cons_zero, List.getElem?_cons_succ, List.length_cons, List.length_nil, List.set_cons_zero, List.set_cons_succ, Nat.reduceAdd, Nat.reduceDiv, Nat.reduceMod, Nat.reduceMul, Nat.reduceLT, Nat.reduceLeDiff, Int32.reduceOfInt, Int64.reduceOfInt, true_and, and_true, and_self, true_or, or_true, false_implies, true_implies, not_false_eq_true, not_true_eq_false, Value.category, Nat.reduceEqDiff, Option.toList, List.cons_append, List.nil_append, List.drop_succ_cons, List.drop_zero, ax_t_1032, y149, hal]
      refine ax_inv_of (Nat.le_of_ble_eq_true rfl) (Nat.le_of_ble_eq_true rfl) (fun _ => kR_rcv hal m3.1 _) (fun h => absurd h (by decide)) (Nat.le_refl _) (Nat.le_refl _) (ax_Mt_mono (cs_pass (m := 20) (by omega) hal hk.2 hp hpl (by omega) hhs (ks_zero hsh) (kC_sf hC i5) m3) ?_)
      rintro r es6 ⟨rfl, m5, m6⟩
      obtain ⟨dr6, u149⟩ := m5.2.1.1
      have u0 := m5.2.2.2.1
      have u3 := m5.2.2.2.2.2.2.1
      have i6 := ksf_trans i5 m6
      have ih := ih es6 (kT_kSe m5) i6
      simp only [ax_W_cons, ax_I, ax_cmp, ax_ii, ax_ll, ax_li, ax_st1, ax_st2, ax_kl, ax_k2, ax_fit, ax_rtok, List.getElem?_cons_zero, List.getElem?_cons_succ, List.length_cons, List.length_nil, List.set_cons_zero, List.set_cons_succ, Nat.reduceAdd, Nat.reduceDiv, Nat.reduceMod, Nat.reduceMul, Nat.reduceLT, Nat.reduceLeDiff, Int32.reduceOfInt, Int64.reduceOfInt, true_and, and_true, and_self, true_or, or_true, false_implies, true_implies, not_false_eq_true, not_true_eq_false, Value.category, Nat.reduceEqDiff, Option.toList, List.cons_append, List.nil_append, List.drop_succ_cons, List.drop_zero, ax_t_1032, ax_j_1032_86, ax_n_1032_86, ax_j_1032_99, ax_n_1032_99, u149, u0, u3, kb_o, kb_a, hal, e2, e3, f4]
      simp only [ax_j_1032_7]
      refine ⟨fun h => ?_, fun h => ⟨fun h2 => ?_, fun h2 => ?_⟩⟩
      · rw [kx_bfk, if_pos (by exact ⟨by simp [hcr], Or.inl h⟩)] at ih
        exact ih
      · rw [kx_bfk, if_neg (by intro z; exact z.2.elim h (fun y => absurd y (by rw [kx_nlt]; exact h2)))] at ih
        exact ih
      · rw [kx_nle] at h2
        rw [kx_bfk, if_pos (by exact ⟨by simp [hcr], Or.inr h2⟩)] at ih
        exact ih
    · simp only [ax_W_cons, ax_I, ax_cmp, ax_ii, ax_ll, ax_li, ax_st1, ax_st2, ax_kl, ax_k2, ax_fit, ax_rtok, List.getElem?_cons_zero, List.getElem?_cons_succ, List.length_cons, List.length_nil, List.set_cons_zero, List.set_cons_succ, Nat.reduceAdd, Nat.reduceDiv, Nat.reduceMod, Nat.reduceMul, Nat.reduceLT, Nat.reduceLeDiff, Int32.reduceOfInt, Int64.reduceOfInt, true_and, and_true, and_self, true_or, or_true, false_implies, true_implies, not_false_eq_true, not_true_eq_false, Value.category, Nat.reduceEqDiff, Option.toList, List.cons_append, List.nil_append, List.drop_succ_cons, List.drop_zero, ax_t_1032, ax_j_1032_99, ax_n_1032_99, f4]
      rw [ax_j_1032_7]
      have ih := ih es1 i1 i2
      simp at hcr
      rw [kx_bfk, if_neg (by intro z; simp [hcr] at z)] at ih
      exact ih
theorem ck_bestPlace (hd : 6 ≤ d) (hS : kSe es n F1) (hW : kW es n k p hc kd pl0 ht hs F1 F2 T cr sh pl dn) {i : Nat} (hi : i < 6) : ax_Mt d 1034 [.ref 149, .int (nI i)] n sl es (fun r es' => r = some (.int (kx_bp (fun w => kx_pdn (kx_dd F1 F2 k kd ht cr hs hc T sh (upd pl i (nI w))) p dn 20 i) k).1) ∧ kSe es' n F1 ∧ ksf es es') := by
  obtain ⟨d, rfl⟩ : ∃ z, d = z + 1 := ⟨d - 1, by omega⟩
  obtain ⟨hal, hk, hp, hhs, hsh, hpl, hT, hC, hb⟩ := id hW
  have e2 : vp_in (nI i) 6 := nI_in hi (by decide)
  have e3 : (nI i).toNatClampNeg = i := nI_clamp (by omega)
  refine ax_Mt_start (m := ax_m_8_10) (ls := [some (.ref 149), some (.int (nI i)), none, none, none]) rfl ax_b_1034_0 (Nat.le_of_ble_eq_true rfl) rfl ?_
  simp only [ax_W_cons, ax_I, ax_cmp, ax_ii, ax_ll, ax_li, ax_st1, ax_st2, ax_kl, ax_k2, ax_fit, ax_rtok, List.getElem?_cons_zero, List.getElem?_cons_succ, List.length_cons, List.length_nil, List.set_cons_zero, List.set_cons_succ, Nat.reduceAdd, Nat.reduceDiv, Nat.reduceMod, Nat.reduceMul, Nat.reduceLT, Nat.reduceLeDiff, Int32.reduceOfInt, Int64.reduceOfInt, true_and, and_true, and_self, true_or, or_true, false_implies, true_implies, not_false_eq_true, not_true_eq_false, Value.category, Nat.reduceEqDiff, Option.toList, List.cons_append, List.nil_append, List.drop_succ_cons, List.drop_zero, ax_t_1034]
  rw [ax_n_1034_7]
  have L := kx_loop (k := k) (I := fun w => ∀ es1, kSe es1 n F1 → ksf es es1 → ax_W (d + 1) n sl 1034 [(2, .iload 4), (1, .aload 0), (3, .getfield 2054), (3, .getfield 0), (3, .if_icmp .ge 92), (1, .aload 0), (3, .getfield 2062), (1, .aload 0), (3, .getfield 2054), (3, .invokeinterface 2 9), (1, .aload 0), (3, .getfield 2062), (3, .getfield 22), (1, .iload 1), (2, .iload 4), (1, .iastore), (1, .aload 0), (3, .getfield 2050), (1, .aload 0), (3, .getfield 2062), (2, .iconst 20), (3, .invokeinterface 642 13), (1, .pop), (1, .iload 2), (1, .iconst (-1)), (3, .if_icmp .eq 73), (1, .aload 0), (3, .getfield 2062), (3, .getfield 26), (1, .iload 1), (1, .iaload), (1, .iload 3), (3, .if_icmp .le 86)] 7 [some (.ref 149), some (.int (nI i)), some (.int (kx_bp (fun w => kx_pdn (kx_dd F1 F2 k kd ht cr hs hc T sh (upd pl i (nI w))) p dn 20 i) w).1), some (.int (kx_bp (fun w => kx_pdn (kx_dd F1 F2 k kd ht cr hs hc T sh (upd pl i (nI w))) p dn 20 i) w).2), some (.int (nI w))] [] n sl es1 (fun r n' sl' es' => n' = n ∧ sl' = sl ∧ r = some (.int (kx_bp (fun w => kx_pdn (kx_dd F1 F2 k kd ht cr hs hc T sh (upd pl i (nI w))) p dn 20 i) k).1) ∧ kSe es' n F1 ∧ ksf es es')) ?_ ?_
  · exact L es hS (ksf_rf es)
  · intro es1 i1 i2
    obtain ⟨dr1, w149⟩ := i1.2.1.1
    obtain ⟨-, v0, -⟩ := kb_sf (by omega) hb i2
    have e0 := kx_nn (k := k) (by omega)
    simp only [ax_W_cons, ax_I, ax_cmp, ax_ii, ax_ll, ax_li, ax_st1, ax_st2, ax_kl, ax_k2, ax_fit, ax_rtok, List.getElem?_cons_zero, List.getElem?_cons_succ, List.length_cons, List.length_nil, List.set_cons_zero, List.set_cons_succ, Nat.reduceAdd, Nat.reduceDiv, Nat.reduceMod, Nat.reduceMul, Nat.reduceLT, Nat.reduceLeDiff, Int32.reduceOfInt, Int64.reduceOfInt, true_and, and_true, and_self, true_or, or_true, false_implies, true_implies, not_false_eq_true, not_true_eq_false, Value.category, Nat.reduceEqDiff, Option.toList, List.cons_append, List.nil_append, List.drop_succ_cons, List.drop_zero, ax_t_1034, ax_j_1034_92, ax_n_1034_92, w149, v0, kb_o, hal, e0]
    exact ⟨i1, i2⟩
  · intro w hw ih es1 i1 i2
    obtain ⟨f1, f2, f3, f4⟩ := kx_ix hw hk.2 (by decide)
    obtain ⟨dr1, w149⟩ := i1.2.1.1
    obtain ⟨-, v0, -⟩ := kb_sf (by omega) hb i2
    simp only [ax_W_cons, ax_I, ax_cmp, ax_ii, ax_ll, ax_li, ax_st1, ax_st2, ax_kl, ax_k2, ax_fit, ax_rtok, List.getElem?_cons_zero, List.getElem?_cons_succ, List.length_cons, List.length_nil, List.set_cons_zero, List.set_cons_succ, Nat.reduceAdd, Nat.reduceDiv, Nat.reduceMod, Nat.reduceMul, Nat.reduceLT, Nat.reduceLeDiff, Int32.reduceOfInt, Int64.reduceOfInt, true_and, and_true, and_self, true_or, or_true, false_implies, true_implies, not_false_eq_true, not_true_eq_false, Value.category, Nat.reduceEqDiff, Option.toList, List.cons_append, List.nil_append, List.drop_succ_cons, List.drop_zero, ax_t_1034, w149, v0, kb_o, hal, f1]
    refine ax_inv_of (Nat.le_of_ble_eq_true rfl) (Nat.le_of_ble_eq_true rfl) (fun _ => kSe_rcv hal i1 _) (fun h => absurd h (by decide)) (Nat.le_refl _) (Nat.le_refl _) (ax_Mt_mono (cs_copyW (by omega) i1 (kW_sf hW i2)) ?_)
    rintro r es4 ⟨rfl, m1, m2⟩
    obtain ⟨dr4, x149⟩ := m1.2.1.1
    obtain ⟨-, x0, x1, x2, x3, z1, z2, z3⟩ := id m1.2.2
    obtain ⟨m3, m4⟩ := kT_kw (k := k) (p := p) (T := T) (cr := cr) (sh := sh) (pl := upd pl i (nI w)) (dn := dn) hal m1.1 m1.2.1 z1 (kz_upd z2 hi) z3
    have hup := kb_up2 m1.2.2 (upd pl i (nI w))
    unfold kb_a at hup
    have hup : ax_up es4 152 (.inl (0, 6, .inl (upd pl i (nI w)))) = kw es4 150 k p (nI T) cr sh (upd pl i (nI w)) dn := hup
    have g149 : kw es4 150 k p (nI T) cr sh (upd pl i (nI w)) dn 149 = es4 149 := kw_ne _ _ _ _ _ _ _ _ (by omega)
    simp only [ax_W_cons, ax_I, ax_cmp, ax_ii, ax_ll, ax_li, ax_st1, ax_st2, ax_kl, ax_k2, ax_fit, ax_rtok, List.getElem?_cons_zero, List.getElem?_cons_succ, List.length_cons, List.length_nil, List.set_cons_zero, List.set_cons_succ, Nat.reduceAdd, Nat.reduceDiv, Nat.reduceMod, Nat.reduceMul, Nat.reduceLT, Nat.reduceLeDiff, Int32.reduceOfInt, Int64.reduceOfInt, true_and, and_true, and_self, true_or, or_true, false_implies, true_implies, not_false_eq_true, not_true_eq_false, Value.category, Nat.reduceEqDiff, Option.toList, List.cons_append, List.nil_append, List.drop_succ_cons, List.drop_zero, ax_t_1034, x149, x0, x2, kb_o, kb_a, hal, e2, e3, hup, g149]
    generalize kw es4 150 k p (nI T) cr sh (upd pl i (nI w)) dn = es5 at m3 m4 ⊢
    have i5 := ksf_trans (ksf_trans i2 m2) m4
    have hpl5 : kpl k p (upd pl i (nI w)) := by
      intro j hj
      unfold upd
      split
      · exact ⟨w, hw, rfl⟩
      · exact hpl j hj
    refine ax_inv_of (Nat.le_of_ble_eq_true rfl) (Nat.le_of_ble_eq_true rfl) (fun _ => kR_rcv hal m3.1 _) (fun h => absurd h (by decide)) (Nat.le_refl _) (Nat.le_refl _) (ax_Mt_mono (cs_pass (m := 20) (by omega) hal hk.2 hp hpl5 (by omega) hhs hsh (kC_sf hC i5) m3) ?_)
    rintro r es6 ⟨rfl, m5, m6⟩
    obtain ⟨dr6, u149⟩ := m5.2.1.1
    have u0 := m5.2.2.2.1
    have u3 := m5.2.2.2.2.2.2.1
    have i6 := ksf_trans i5 m6
    have ih := ih es6 (kT_kSe m5) i6
    simp only [ax_W_cons, ax_I, ax_cmp, ax_ii, ax_ll, ax_li, ax_st1, ax_st2, ax_kl, ax_k2, ax_fit, ax_rtok, List.getElem?_cons_zero, List.getElem?_cons_succ, List.length_cons, List.length_nil, List.set_cons_zero, List.set_cons_succ, Nat.reduceAdd, Nat.reduceDiv, Nat.reduceMod, Nat.reduceMul, Nat.reduceLT, Nat.reduceLeDiff, Int32.reduceOfInt, Int64.reduceOfInt, true_and, and_true, and_self, true_or, or_true, false_implies, true_implies, not_false_eq_true, not_true_eq_false, Value.category, Nat.reduceEqDiff, Option.toList, List.cons_append, List.nil_append, List.drop_succ_cons, List.drop_zero, ax_t_1034, ax_j_1034_73, ax_n_1034_73, ax_j_1034_86, ax_n_1034_86, u149, u0, u3, kb_o, kb_a, hal, e2, e3, f4]
    simp only [ax_j_1034_7]
    refine ⟨fun h => ?_, fun h => ⟨fun h2 => ?_, fun h2 => ?_⟩⟩
    · rw [kx_bp, if_pos (by exact Or.inl h)] at ih
      exact ih
    · rw [kx_bp, if_neg (by intro z; exact z.elim h (fun y => absurd y (by rw [kx_nlt]; exact h2)))] at ih
      exact ih
    · rw [kx_nle] at h2
      rw [kx_bp, if_pos (by exact Or.inr h2)] at ih
      exact ih
end KS
