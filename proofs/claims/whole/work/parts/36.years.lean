/-! Seer: years -/
abbrev nL (n : Nat) : Int64 := Int64.ofNat n
theorem nL_toInt {n : Nat} (h : n < 2 ^ 63) : (nL n).toInt = (n : Int) := Int64.toInt_ofNat_of_lt h
theorem nL_inj {a b : Nat} (ha : a < 2 ^ 63) (hb : b < 2 ^ 63) (h : nL a = nL b) : a = b := by
  have h := congrArg Int64.toInt h
  rw [nL_toInt ha, nL_toInt hb] at h
  omega
theorem nL_add (a b : Nat) : nL a + nL b = nL (a + b) := (Int64.ofNat_add a b).symm
theorem nL_mul (a b : Nat) : nL a * nL b = nL (a * b) := (Int64.ofNat_mul a b).symm
theorem nL_sub {a b : Nat} (h : b ≤ a) : nL a - nL b = nL (a - b) := by
  have e : nL a = nL (a - b) + nL b := by rw [nL_add]; congr 1; omega
  rw [e, Int64.add_sub_cancel]
theorem nL_div {a b : Nat} (ha : a < 2 ^ 63) (hb : b < 2 ^ 63) : nL a / nL b = nL (a / b) := by
  apply Int64.toInt_inj.mp
  have h9 : a / b ≤ a := Nat.div_le_self a b
  rw [Int64.toInt_div, nL_toInt ha, nL_toInt hb, nL_toInt (by omega)]
  rw [show Int.tdiv (a : Int) (b : Int) = ((a / b : Nat) : Int) from (Int.ofNat_tdiv a b).symm]
  rw [show ((a / b : Nat) : Int) = Int.ofNat (a / b) from rfl]
  generalize a / b = c at h9 ⊢
  exact Int.bmod_eq_of_le (by simp) (by simp; omega)
theorem nL_rem {a b : Nat} (ha : a < 2 ^ 63) (hb : b < 2 ^ 63) : nL a - nL a / nL b * nL b = nL (a % b) := by
  rw [nL_div ha hb, nL_mul]
  have h := Nat.div_add_mod a b
  have h2 : a / b * b = b * (a / b) := Nat.mul_comm _ _
  rw [nL_sub (by omega)]
  congr 1
  omega
theorem nL_ne0 {a : Nat} (h0 : 0 < a) (h : a < 2 ^ 63) : ¬ nL a = 0 := fun z => by
  have := nL_inj (b := 0) h (by decide) z
  omega
theorem nI_64 {a : Nat} (h : a < 2 ^ 31) : (nI a).toInt64 = nL a := by
  apply Int64.toInt_inj.mp
  rw [Int32.toInt_toInt64, nI_toInt h, nL_toInt (by omega)]
theorem nL_32 {a : Nat} (h : a < 2 ^ 31) : (nL a).toInt32 = nI a := by
  apply Int32.toInt_inj.mp
  rw [Int64.toInt_toInt32, nL_toInt (by omega), nI_toInt h]
  exact Int.bmod_eq_of_le (by omega) (by omega)
def kx_dw (G : Nat) : Nat := (G * 1103515245 + 12345) % 2147483648
def kGo (G : Nat) : Prop := G < 2147483648
theorem kx_dw_lt (G : Nat) : kGo (kx_dw G) := Nat.mod_lt _ (by decide)
/-- one drawn, below b -/
def kx_db (G b : Nat) : Nat := kx_dw G / 65536 % b
def kx_ac (k p : Nat) (act a b : Int32) (s : kSt) : kSt := if kx_can k p s.2.1 act a b = true then kx_jp k act a b s else s
def kx_da (k p : Nat) (G : Nat) (s : kSt) : Nat × kSt :=
  if kx_db G 8 ≤ 3 then (kx_dw (kx_dw (kx_dw G)), kx_ac k p 7 (nI (kx_db (kx_dw G) k)) (nI (kx_db (kx_dw (kx_dw G)) 20 + 1)) s)
  else if kx_db G 8 = 4 then (kx_dw (kx_dw G), kx_ac k p 8 (nI (kx_db (kx_dw G) k)) 0 s)
  else if kx_db G 8 = 5 then (kx_dw G, kx_ac k p 10 0 0 s)
  else if kx_db G 8 = 6 ∧ 0 < p then (kx_dw (kx_dw (kx_dw G)), kx_ac k p 11 (nI (kx_db (kx_dw G) p)) (nI (kx_db (kx_dw (kx_dw G)) p)) s)
  else (kx_dw G, s)
def kSg (G : Nat) : ax_E := .inr (8, [.ref 146, .ref 38, .ref 42, .ref 150, .ref 154, .ref 158, .long (nL G)])
def kTg (es : ax_H) (n : Nat) (F1 : Int32 → Int32 → Int32 → Int32 → Int32) (k p G : Nat) (s : kSt) : Prop := kT es n F1 k p s.1 s.2.1 s.2.2.1 s.2.2.2.1 s.2.2.2.2 ∧ es 149 = kSg G
def kSv (k p : Nat) (s : kSt) : Prop := ks s.2.2.1 ∧ kpl k p s.2.2.2.1
theorem kTg_up {es : ax_H} {n : Nat} {F1 : Int32 → Int32 → Int32 → Int32 → Int32} {k p G G' : Nat} {s : kSt} (h : kTg es n F1 k p G s) : kTg (ax_up es 149 (kSg G')) n F1 k p G' s := by
  obtain ⟨⟨⟨p0, ⟨ps1, pg1, p1, p2⟩, ⟨ps2, pg2, p3, p4⟩, ⟨pah, p5, p6⟩, pfd, p7, p8⟩, ⟨⟨dr, h1⟩, ⟨k9, p9, t9, cr9, sh9, pl9, dn9, h2⟩, ty0, h3, h5⟩, h4⟩, h6⟩ := h
  refine ⟨⟨⟨?_, ⟨ps1, pg1, ?_, ?_⟩, ⟨ps2, pg2, ?_, ?_⟩, ⟨pah, ?_, p6⟩, pfd, ?_, p8⟩, ⟨⟨nL G', ?_⟩, ⟨k9, p9, t9, cr9, sh9, pl9, dn9, kb_fr h2 (fun j hj => ax_up_ne _ _ (by omega))⟩, ty0, ?_, h5⟩, kb_fr h4 (fun j hj => ax_up_ne _ _ (by omega))⟩, ax_up_same ..⟩
  all_goals first | exact ax_up_same .. | (rw [ax_up_ne _ _ (by decide)]; assumption)
theorem kSv_ac {k p : Nat} {act a b : Int32} {s : kSt} (hk : k ≤ 12) (hp : p ≤ 6) (h : kSv k p s) (hf : act = 7 → ∃ f, f ≤ 20 ∧ b = nI f) : kSv k p (kx_ac k p act a b s) := by
  unfold kx_ac
  split
  · next hcan => exact ks_perf hk hp h.1 h.2 hcan hf
  · exact h
theorem kSv_da {k p G : Nat} {s : kSt} (hk : k ≤ 12) (hp : p ≤ 6) (h : kSv k p s) : kSv k p (kx_da k p G s).2 := by
  unfold kx_da
  split
  · refine kSv_ac hk hp h (fun _ => ⟨_, ?_, rfl⟩)
    have : kx_db (kx_dw (kx_dw G)) 20 < 20 := Nat.mod_lt _ (by decide)
    omega
  · split
    · exact kSv_ac hk hp h (fun z => absurd z (by decide))
    · split
      · exact kSv_ac hk hp h (fun z => absurd z (by decide))
      · split
        · exact kSv_ac hk hp h (fun z => absurd z (by decide))
        · exact h
theorem kx_ac_T (k p : Nat) (act a b : Int32) (s : kSt) : (kx_ac k p act a b s).1 = s.1 := by
  unfold kx_ac
  split <;> rfl
theorem kx_da_T (k p G : Nat) (s : kSt) : (kx_da k p G s).2.1 = s.1 := by
  unfold kx_da
  split
  · exact kx_ac_T ..
  · split
    · exact kx_ac_T ..
    · split
      · exact kx_ac_T ..
      · split
        · exact kx_ac_T ..
        · rfl
theorem kx_da_lt (k p G : Nat) (s : kSt) : kGo (kx_da k p G s).1 := by
  unfold kx_da
  split
  · exact kx_dw_lt _
  · split
    · exact kx_dw_lt _
    · split
      · exact kx_dw_lt _
      · split
        · exact kx_dw_lt _
        · exact kx_dw_lt _
section KS
variable {d n sl k p : Nat} {es : ax_H} {F1 : Int32 → Int32 → Int32 → Int32 → Int32} {G : Nat} {s : kSt}
theorem ck_drawBelow (hal : ax_al n = 178) (hG : kGo G) (h : es 149 = kSg G) {b : Nat} (hb0 : 0 < b) (hb : b ≤ 20) {Q : Option Value → ax_H → Prop} (hQ : Q (some (.int (nI (kx_db G b)))) (ax_up es 149 (kSg (kx_dw G)))) : ax_Mt d 1052 [.ref 149, .int (nI b)] n sl es Q := by
  have hG : G < 2147483648 := hG
  have e1 : nL G * 1103515245 + 12345 = nL (G * 1103515245 + 12345) := by
    show nL G * nL 1103515245 + nL 12345 = _
    rw [nL_mul, nL_add]
  have e2 : nL (G * 1103515245 + 12345) - nL (G * 1103515245 + 12345) / 2147483648 * 2147483648 = nL (kx_dw G) := nL_rem (b := 2147483648) (by omega) (by decide)
  have e3 : ¬ nI b ≤ 0 := nI_nle hb0 (by omega)
  have hlt : kx_dw G < 2147483648 := kx_dw_lt G
  have e4 : nL (kx_dw G) / 65536 = nL (kx_dw G / 65536) := nL_div (b := 65536) (by omega) (by decide)
  have e5 : (nI b).toInt64 = nL b := nI_64 (by omega)
  have e6 : nL (kx_dw G / 65536) - nL (kx_dw G / 65536) / nL b * nL b = nL (kx_dw G / 65536 % b) := nL_rem (by omega) (by omega)
  have hlt2 := Nat.mod_lt (kx_dw G / 65536) hb0
  have e7 : (nL (kx_dw G / 65536 % b)).toInt32 = nI (kx_db G b) := nL_32 (by omega)
  have e8 : ¬ nL b = 0 := nL_ne0 hb0 (by omega)
  have e9 : ¬ (2147483648 : Int64) = 0 := by decide
  have e10 : ¬ (65536 : Int64) = 0 := by decide
  refine ax_Mt_go (m := ax_m_8_28) (ls := [some (.ref 149), some (.int (nI b))]) rfl ax_b_1052_0 (Nat.le_of_ble_eq_true rfl) rfl ?_
  simp only [ax_W_cons, ax_I, ax_cmp, ax_ii, ax_ll, ax_li, ax_st1, ax_st2, ax_kl, ax_k2, ax_fit, ax_rtok, List.getElem?_cons_zero, List.getElem?_cons_succ, List.length_cons, List.length_nil, List.set_cons_zero, List.set_cons_succ, Nat.reduceAdd, Nat.reduceDiv, Nat.reduceMod, Nat.reduceMul, Nat.reduceLT, Nat.reduceLeDiff, Int32.reduceOfInt, Int64.reduceOfInt, true_and, and_true, and_self, true_or, or_true, false_implies, true_implies, not_false_eq_true, not_true_eq_false, Value.category, Nat.reduceEqDiff, Option.toList, List.cons_append, List.nil_append, List.drop_succ_cons, List.drop_zero, ax_qq_eq, ax_t_1052, ax_j_1052_39, ax_n_1052_39, ax_j_1052_40, ax_n_1052_40, h, kSg, hal, e1, e2, e3, e4, e5, e6, e7, e8, e9, e10, ax_up_same]
  exact hQ
theorem ck_actIfCan (hal : ax_al n = 178) (hk : k ≤ 12) (hk0 : 0 < k) (hp : p ≤ 6) (h : kTg es n F1 k p G s) (act a b : Int32) {Q : Option Value → ax_H → Prop} (hQ : ∀ es', kTg es' n F1 k p G (kx_ac k p act a b s) → ksf es es' → Q none es') : ax_Mt (d + 4) 1051 [.ref 149, .int act, .int a, .int b] n sl es Q := by
  obtain ⟨h1, h149⟩ := h
  refine ax_Mt_go (m := ax_m_8_27) (ls := [some (.ref 149), some (.int act), some (.int a), some (.int b)]) rfl ax_b_1051_0 (Nat.le_of_ble_eq_true rfl) rfl ?_
  simp only [ax_W_cons, ax_I, ax_cmp, ax_ii, ax_ll, ax_li, ax_st1, ax_st2, ax_kl, ax_k2, ax_fit, ax_rtok, List.getElem?_cons_zero, List.getElem?_cons_succ, List.length_cons, List.length_nil, List.set_cons_zero, List.set_cons_succ, Nat.reduceAdd, Nat.reduceDiv, Nat.reduceMod, Nat.reduceMul, Nat.reduceLT, Nat.reduceLeDiff, Int32.reduceOfInt, Int64.reduceOfInt, true_and, and_true, and_self, true_or, or_true, false_implies, true_implies, not_false_eq_true, not_true_eq_false, Value.category, Nat.reduceEqDiff, Option.toList, List.cons_append, List.nil_append, List.drop_succ_cons, List.drop_zero, ax_qq_eq, ax_t_1051, h149, kSg, hal]
  refine ax_inv_eq (Nat.le_of_ble_eq_true rfl) (Nat.le_of_ble_eq_true rfl) (fun _ => kSe_rcv hal (kT_kSe h1) _) (fun h => absurd h (by decide)) (Nat.le_refl _) (Nat.le_refl _) (ck_canBe (by omega) h1.2.2 act a b) ?_
  unfold kx_ac at hQ
  simp only [ax_W_cons, ax_I, ax_cmp, ax_ii, ax_ll, ax_li, ax_st1, ax_st2, ax_kl, ax_k2, ax_fit, ax_rtok, List.getElem?_cons_zero, List.getElem?_cons_succ, List.length_cons, List.length_nil, List.set_cons_zero, List.set_cons_succ, Nat.reduceAdd, Nat.reduceDiv, Nat.reduceMod, Nat.reduceMul, Nat.reduceLT, Nat.reduceLeDiff, Int32.reduceOfInt, Int64.reduceOfInt, true_and, and_true, and_self, true_or, or_true, false_implies, true_implies, not_false_eq_true, not_true_eq_false, Value.category, Nat.reduceEqDiff, Option.toList, List.cons_append, List.nil_append, List.drop_succ_cons, List.drop_zero, ax_qq_eq, ax_t_1051, ax_j_1051_23, ax_n_1051_23, h149, kSg, hal, kx_b0]
  refine ⟨fun hno => ?_, fun hyes => ?_⟩
  · rw [if_neg (by rw [hno]; decide)] at hQ
    exact hQ es ⟨h1, h149⟩ (ksf_rf es)
  · have hyes : kx_can k p s.2.1 act a b = true := by simpa using hyes
    rw [if_pos hyes] at hQ
    refine ax_inv_eq (Nat.le_of_ble_eq_true rfl) (Nat.le_of_ble_eq_true rfl) (fun _ => kSe_rcv hal (kT_kSe h1) _) (fun h => absurd h (by decide)) (Nat.le_refl _) (Nat.le_refl _) (ck_perform (by omega) hk hk0 hp h1.2.2 act a b hyes) ?_
    obtain ⟨-, -, -, -, -, z1, z2, z3⟩ := id h1.2.2
    obtain ⟨y1, y2⟩ := kz_perf hk hp z1 z2 hyes
    obtain ⟨m3, m4⟩ := kT_kw (k := k) (p := p) (T := s.1) (cr := (kx_perf k act a b s.2.1 s.2.2.1 s.2.2.2.1).1) (dn := s.2.2.2.2) hal h1.1 h1.2.1 y1 y2 z3
    simp only [ax_W_cons, ax_I, ax_cmp, ax_ii, ax_ll, ax_li, ax_st1, ax_st2, ax_kl, ax_k2, ax_fit, ax_rtok, List.getElem?_cons_zero, List.getElem?_cons_succ, List.length_cons, List.length_nil, List.set_cons_zero, List.set_cons_succ, Nat.reduceAdd, Nat.reduceDiv, Nat.reduceMod, Nat.reduceMul, Nat.reduceLT, Nat.reduceLeDiff, Int32.reduceOfInt, Int64.reduceOfInt, true_and, and_true, and_self, true_or, or_true, false_implies, true_implies, not_false_eq_true, not_true_eq_false, Value.category, Nat.reduceEqDiff, Option.toList, List.cons_append, List.nil_append, List.drop_succ_cons, List.drop_zero, ax_qq_eq, ax_t_1051, ax_j_1051_23, ax_n_1051_23]
    exact hQ _ ⟨m3, (kw_ne _ _ _ _ _ _ _ _ (by omega)).trans h149⟩ m4
theorem ck_drawAct (hal : ax_al n = 178) (hk : k ≤ 12) (hk0 : 0 < k) (hp : p ≤ 6) (hG : kGo G) (h : kTg es n F1 k p G s) {Q : Option Value → ax_H → Prop} (hQ : ∀ es', kTg es' n F1 k p (kx_da k p G s).1 (kx_da k p G s).2 → ksf es es' → Q none es') : ax_Mt (d + 5) 1050 [.ref 149] n sl es Q := by
  have h149 := h.2
  have rc : ∀ es1, (∃ G, es1 149 = kSg G) → ∀ As, ax_rcv n es1 8 (.ref 149 :: As) := fun es1 h As => by
    obtain ⟨G, h⟩ := h
    exact ax_rcv_ok (by omega) h
  have fr : ∀ es1 x, ksf es1 (ax_up es1 149 x) := fun es1 x j hj => ax_up_ne _ _ (by omega)
  have hlt : kx_db G 8 < 8 := Nat.mod_lt _ (by decide)
  unfold kx_da at hQ
  refine ax_Mt_go (m := ax_m_8_26) (ls := [some (.ref 149), none, none]) rfl ax_b_1050_0 (Nat.le_of_ble_eq_true rfl) rfl ?_
  simp only [ax_W_cons, ax_I, ax_cmp, ax_ii, ax_ll, ax_li, ax_st1, ax_st2, ax_kl, ax_k2, ax_fit, ax_rtok, List.getElem?_cons_zero, List.getElem?_cons_succ, List.length_cons, List.length_nil, List.set_cons_zero, List.set_cons_succ, Nat.reduceAdd, Nat.reduceDiv, Nat.reduceMod, Nat.reduceMul, Nat.reduceLT, Nat.reduceLeDiff, Int32.reduceOfInt, Int64.reduceOfInt, true_and, and_true, and_self, true_or, or_true, false_implies, true_implies, not_false_eq_true, not_true_eq_false, Value.category, Nat.reduceEqDiff, Option.toList, List.cons_append, List.nil_append, List.drop_succ_cons, List.drop_zero, ax_qq_eq, ax_t_1050]
  refine ax_inv_of (Nat.le_of_ble_eq_true rfl) (Nat.le_of_ble_eq_true rfl) (fun _ => rc es ⟨_, h149⟩ _) (fun h => absurd h (by decide)) (Nat.le_refl _) (Nat.le_refl _) (ck_drawBelow (b := 8) hal hG h149 (by decide) (by decide) ?_)
  have h1 := kTg_up (G' := kx_dw G) h
  have r1 := fr es (kSg (kx_dw G))
  generalize ax_up es 149 (kSg (kx_dw G)) = es1 at h1 r1 ⊢
  have y149 := h1.2
  have y0 := h1.1.2.2.2.1
  by_cases c3 : kx_db G 8 ≤ 3
  · rw [if_pos c3] at hQ
    have e1 : ¬ (3 : Int32) < nI (kx_db G 8) := nI_nlt (a := 3) c3 (by decide)
    simp only [ax_W_cons, ax_I, ax_cmp, ax_ii, ax_ll, ax_li, ax_st1, ax_st2, ax_kl, ax_k2, ax_fit, ax_rtok, List.getElem?_cons_zero, List.getElem?_cons_succ, List.length_cons, List.length_nil, List.set_cons_zero, List.set_cons_succ, Nat.reduceAdd, Nat.reduceDiv, Nat.reduceMod, Nat.reduceMul, Nat.reduceLT, Nat.reduceLeDiff, Int32.reduceOfInt, Int64.reduceOfInt, true_and, and_true, and_self, true_or, or_true, false_implies, true_implies, not_false_eq_true, not_true_eq_false, Value.category, Nat.reduceEqDiff, Option.toList, List.cons_append, List.nil_append, List.drop_succ_cons, List.drop_zero, ax_qq_eq, ax_t_1050, e1, y149, kSg, y0, kb_o, hal]
    refine ax_inv_of (Nat.le_of_ble_eq_true rfl) (Nat.le_of_ble_eq_true rfl) (fun _ => rc es1 ⟨_, y149⟩ _) (fun h => absurd h (by decide)) (Nat.le_refl _) (Nat.le_refl _) (ck_drawBelow hal (kx_dw_lt _) y149 hk0 (by omega) ?_)
    have h2 := kTg_up (G' := kx_dw (kx_dw G)) h1
    have r2 := fr es1 (kSg (kx_dw (kx_dw G)))
    generalize ax_up es1 149 (kSg (kx_dw (kx_dw G))) = es2 at h2 r2 ⊢
    simp only [ax_W_cons, ax_I, ax_cmp, ax_ii, ax_ll, ax_li, ax_st1, ax_st2, ax_kl, ax_k2, ax_fit, ax_rtok, List.getElem?_cons_zero, List.getElem?_cons_succ, List.length_cons, List.length_nil, List.set_cons_zero, List.set_cons_succ, Nat.reduceAdd, Nat.reduceDiv, Nat.reduceMod, Nat.reduceMul, Nat.reduceLT, Nat.reduceLeDiff, Int32.reduceOfInt, Int64.reduceOfInt, true_and, and_true, and_self, true_or, or_true, false_implies, true_implies, not_false_eq_true, not_true_eq_false, Value.category, Nat.reduceEqDiff, Option.toList, List.cons_append, List.nil_append, List.drop_succ_cons, List.drop_zero, ax_qq_eq, ax_t_1050]
    refine ax_inv_of (Nat.le_of_ble_eq_true rfl) (Nat.le_of_ble_eq_true rfl) (fun _ => rc es2 ⟨_, h2.2⟩ _) (fun h => absurd h (by decide)) (Nat.le_refl _) (Nat.le_refl _) (ck_drawBelow (b := 20) hal (kx_dw_lt _) h2.2 (by decide) (by decide) ?_)
    have h3 := kTg_up (G' := kx_dw (kx_dw (kx_dw G))) h2
    have r3 := fr es2 (kSg (kx_dw (kx_dw (kx_dw G))))
    generalize ax_up es2 149 (kSg (kx_dw (kx_dw (kx_dw G)))) = es3 at h3 r3 ⊢
    have e2 : nI (kx_db (kx_dw (kx_dw G)) 20) + 1 = nI (kx_db (kx_dw (kx_dw G)) 20 + 1) := (nI_succ _).symm
    simp only [ax_W_cons, ax_I, ax_cmp, ax_ii, ax_ll, ax_li, ax_st1, ax_st2, ax_kl, ax_k2, ax_fit, ax_rtok, List.getElem?_cons_zero, List.getElem?_cons_succ, List.length_cons, List.length_nil, List.set_cons_zero, List.set_cons_succ, Nat.reduceAdd, Nat.reduceDiv, Nat.reduceMod, Nat.reduceMul, Nat.reduceLT, Nat.reduceLeDiff, Int32.reduceOfInt, Int64.reduceOfInt, true_and, and_true, and_self, true_or, or_true, false_implies, true_implies, not_false_eq_true, not_true_eq_false, Value.category, Nat.reduceEqDiff, Option.toList, List.cons_append, List.nil_append, List.drop_succ_cons, List.drop_zero, ax_qq_eq, ax_t_1050, e2]
    refine ax_inv_of (Nat.le_of_ble_eq_true rfl) (Nat.le_of_ble_eq_true rfl) (fun _ => rc es3 ⟨_, h3.2⟩ _) (fun h => absurd h (by decide)) (Nat.le_refl _) (Nat.le_refl _) (ck_actIfCan hal hk hk0 hp h3 7 _ _ ?_)
    intro es4 h4 r4
    simp only [ax_W_cons, ax_I, ax_cmp, ax_ii, ax_ll, ax_li, ax_st1, ax_st2, ax_kl, ax_k2, ax_fit, ax_rtok, List.getElem?_cons_zero, List.getElem?_cons_succ, List.length_cons, List.length_nil, List.set_cons_zero, List.set_cons_succ, Nat.reduceAdd, Nat.reduceDiv, Nat.reduceMod, Nat.reduceMul, Nat.reduceLT, Nat.reduceLeDiff, Int32.reduceOfInt, Int64.reduceOfInt, true_and, and_true, and_self, true_or, or_true, false_implies, true_implies, not_false_eq_true, not_true_eq_false, Value.category, Nat.reduceEqDiff, Option.toList, List.cons_append, List.nil_append, List.drop_succ_cons, List.drop_zero, ax_qq_eq, ax_t_1050, ax_j_1050_130, ax_n_1050_130]
    exact hQ es4 h4 (ksf_trans r1 (ksf_trans r2 (ksf_trans r3 r4)))
  rw [if_neg c3] at hQ
  have e1 : (3 : Int32) < nI (kx_db G 8) := nI_lt (a := 3) (by omega) (by omega)
  by_cases c4 : kx_db G 8 = 4
  · rw [if_pos c4] at hQ
    rw [c4]
    have e1 : (3 : Int32) < 4 := by decide
    have e2 : nI 4 = 4 := rfl
    simp only [ax_W_cons, ax_I, ax_cmp, ax_ii, ax_ll, ax_li, ax_st1, ax_st2, ax_kl, ax_k2, ax_fit, ax_rtok, List.getElem?_cons_zero, List.getElem?_cons_succ, List.length_cons, List.length_nil, List.set_cons_zero, List.set_cons_succ, Nat.reduceAdd, Nat.reduceDiv, Nat.reduceMod, Nat.reduceMul, Nat.reduceLT, Nat.reduceLeDiff, Int32.reduceOfInt, Int64.reduceOfInt, true_and, and_true, and_self, true_or, or_true, false_implies, true_implies, not_false_eq_true, not_true_eq_false, Value.category, Nat.reduceEqDiff, Option.toList, List.cons_append, List.nil_append, List.drop_succ_cons, List.drop_zero, ax_qq_eq, ax_t_1050, ax_j_1050_42, ax_n_1050_42, e1, e2, y149, kSg, y0, kb_o, hal]
    refine ax_inv_of (Nat.le_of_ble_eq_true rfl) (Nat.le_of_ble_eq_true rfl) (fun _ => rc es1 ⟨_, y149⟩ _) (fun h => absurd h (by decide)) (Nat.le_refl _) (Nat.le_refl _) (ck_drawBelow hal (kx_dw_lt _) y149 hk0 (by omega) ?_)
    have h2 := kTg_up (G' := kx_dw (kx_dw G)) h1
    have r2 := fr es1 (kSg (kx_dw (kx_dw G)))
    generalize ax_up es1 149 (kSg (kx_dw (kx_dw G))) = es2 at h2 r2 ⊢
    simp only [ax_W_cons, ax_I, ax_cmp, ax_ii, ax_ll, ax_li, ax_st1, ax_st2, ax_kl, ax_k2, ax_fit, ax_rtok, List.getElem?_cons_zero, List.getElem?_cons_succ, List.length_cons, List.length_nil, List.set_cons_zero, List.set_cons_succ, Nat.reduceAdd, Nat.reduceDiv, Nat.reduceMod, Nat.reduceMul, Nat.reduceLT, Nat.reduceLeDiff, Int32.reduceOfInt, Int64.reduceOfInt, true_and, and_true, and_self, true_or, or_true, false_implies, true_implies, not_false_eq_true, not_true_eq_false, Value.category, Nat.reduceEqDiff, Option.toList, List.cons_append, List.nil_append, List.drop_succ_cons, List.drop_zero, ax_qq_eq, ax_t_1050]
    refine ax_inv_of (Nat.le_of_ble_eq_true rfl) (Nat.le_of_ble_eq_true rfl) (fun _ => rc es2 ⟨_, h2.2⟩ _) (fun h => absurd h (by decide)) (Nat.le_refl _) (Nat.le_refl _) (ck_actIfCan hal hk hk0 hp h2 8 _ _ ?_)
    intro es4 h4 r4
    simp only [ax_W_cons, ax_I, ax_cmp, ax_ii, ax_ll, ax_li, ax_st1, ax_st2, ax_kl, ax_k2, ax_fit, ax_rtok, List.getElem?_cons_zero, List.getElem?_cons_succ, List.length_cons, List.length_nil, List.set_cons_zero, List.set_cons_succ, Nat.reduceAdd, Nat.reduceDiv, Nat.reduceMod, Nat.reduceMul, Nat.reduceLT, Nat.reduceLeDiff, Int32.reduceOfInt, Int64.reduceOfInt, true_and, and_true, and_self, true_or, or_true, false_implies, true_implies, not_false_eq_true, not_true_eq_false, Value.category, Nat.reduceEqDiff, Option.toList, List.cons_append, List.nil_append, List.drop_succ_cons, List.drop_zero, ax_qq_eq, ax_t_1050, ax_j_1050_130, ax_n_1050_130]
    exact hQ es4 h4 (ksf_trans r1 (ksf_trans r2 r4))
  rw [if_neg c4] at hQ
  have e2 : ¬ nI (kx_db G 8) = 4 := fun z => c4 (kn_inj (b := 4) (by omega) (by decide) z)
  by_cases c5 : kx_db G 8 = 5
  · rw [if_pos c5] at hQ
    rw [c5]
    have e1 : (3 : Int32) < 5 := by decide
    have e2 : ¬ (5 : Int32) = 4 := by decide
    have e3 : nI 5 = 5 := rfl
    simp only [ax_W_cons, ax_I, ax_cmp, ax_ii, ax_ll, ax_li, ax_st1, ax_st2, ax_kl, ax_k2, ax_fit, ax_rtok, List.getElem?_cons_zero, List.getElem?_cons_succ, List.length_cons, List.length_nil, List.set_cons_zero, List.set_cons_succ, Nat.reduceAdd, Nat.reduceDiv, Nat.reduceMod, Nat.reduceMul, Nat.reduceLT, Nat.reduceLeDiff, Int32.reduceOfInt, Int64.reduceOfInt, true_and, and_true, and_self, true_or, or_true, false_implies, true_implies, not_false_eq_true, not_true_eq_false, Value.category, Nat.reduceEqDiff, Option.toList, List.cons_append, List.nil_append, List.drop_succ_cons, List.drop_zero, ax_qq_eq, ax_t_1050, ax_j_1050_42, ax_n_1050_42, ax_j_1050_68, ax_n_1050_68, e1, e2, e3]
    refine ax_inv_of (Nat.le_of_ble_eq_true rfl) (Nat.le_of_ble_eq_true rfl) (fun _ => rc es1 ⟨_, y149⟩ _) (fun h => absurd h (by decide)) (Nat.le_refl _) (Nat.le_refl _) (ck_actIfCan hal hk hk0 hp h1 10 0 0 ?_)
    intro es4 h4 r4
    simp only [ax_W_cons, ax_I, ax_cmp, ax_ii, ax_ll, ax_li, ax_st1, ax_st2, ax_kl, ax_k2, ax_fit, ax_rtok, List.getElem?_cons_zero, List.getElem?_cons_succ, List.length_cons, List.length_nil, List.set_cons_zero, List.set_cons_succ, Nat.reduceAdd, Nat.reduceDiv, Nat.reduceMod, Nat.reduceMul, Nat.reduceLT, Nat.reduceLeDiff, Int32.reduceOfInt, Int64.reduceOfInt, true_and, and_true, and_self, true_or, or_true, false_implies, true_implies, not_false_eq_true, not_true_eq_false, Value.category, Nat.reduceEqDiff, Option.toList, List.cons_append, List.nil_append, List.drop_succ_cons, List.drop_zero, ax_qq_eq, ax_t_1050, ax_j_1050_130, ax_n_1050_130]
    exact hQ es4 h4 (ksf_trans r1 r4)
  rw [if_neg c5] at hQ
  have e3 : ¬ nI (kx_db G 8) = 5 := fun z => c5 (kn_inj (b := 5) (by omega) (by decide) z)
  by_cases c6 : kx_db G 8 = 6
  · rw [c6] at hQ ⊢
    have e1 : (3 : Int32) < 6 := by decide
    have e2 : ¬ (6 : Int32) = 4 := by decide
    have e3 : ¬ (6 : Int32) = 5 := by decide
    have e4 : nI 6 = 6 := rfl
    by_cases cp : 0 < p
    · rw [if_pos ⟨rfl, cp⟩] at hQ
      have e5 : ¬ nI p ≤ 0 := nI_nle cp (by omega)
      simp only [ax_W_cons, ax_I, ax_cmp, ax_ii, ax_ll, ax_li, ax_st1, ax_st2, ax_kl, ax_k2, ax_fit, ax_rtok, List.getElem?_cons_zero, List.getElem?_cons_succ, List.length_cons, List.length_nil, List.set_cons_zero, List.set_cons_succ, Nat.reduceAdd, Nat.reduceDiv, Nat.reduceMod, Nat.reduceMul, Nat.reduceLT, Nat.reduceLeDiff, Int32.reduceOfInt, Int64.reduceOfInt, true_and, and_true, and_self, true_or, or_true, false_implies, true_implies, not_false_eq_true, not_true_eq_false, Value.category, Nat.reduceEqDiff, Option.toList, List.cons_append, List.nil_append, List.drop_succ_cons, List.drop_zero, ax_qq_eq, ax_t_1050, ax_j_1050_42, ax_n_1050_42, ax_j_1050_68, ax_n_1050_68, ax_j_1050_84, ax_n_1050_84, e1, e2, e3, e4, e5, y149, kSg, y0, kb_o, hal]
      refine ax_inv_of (Nat.le_of_ble_eq_true rfl) (Nat.le_of_ble_eq_true rfl) (fun _ => rc es1 ⟨_, y149⟩ _) (fun h => absurd h (by decide)) (Nat.le_refl _) (Nat.le_refl _) (ck_drawBelow hal (kx_dw_lt _) y149 cp (by omega) ?_)
      have h2 := kTg_up (G' := kx_dw (kx_dw G)) h1
      have r2 := fr es1 (kSg (kx_dw (kx_dw G)))
      generalize ax_up es1 149 (kSg (kx_dw (kx_dw G))) = es2 at h2 r2 ⊢
      have z149 := h2.2
      have z0 := h2.1.2.2.2.1
      simp only [ax_W_cons, ax_I, ax_cmp, ax_ii, ax_ll, ax_li, ax_st1, ax_st2, ax_kl, ax_k2, ax_fit, ax_rtok, List.getElem?_cons_zero, List.getElem?_cons_succ, List.length_cons, List.length_nil, List.set_cons_zero, List.set_cons_succ, Nat.reduceAdd, Nat.reduceDiv, Nat.reduceMod, Nat.reduceMul, Nat.reduceLT, Nat.reduceLeDiff, Int32.reduceOfInt, Int64.reduceOfInt, true_and, and_true, and_self, true_or, or_true, false_implies, true_implies, not_false_eq_true, not_true_eq_false, Value.category, Nat.reduceEqDiff, Option.toList, List.cons_append, List.nil_append, List.drop_succ_cons, List.drop_zero, ax_qq_eq, ax_t_1050, z149, kSg, z0, kb_o, hal]
      refine ax_inv_of (Nat.le_of_ble_eq_true rfl) (Nat.le_of_ble_eq_true rfl) (fun _ => rc es2 ⟨_, h2.2⟩ _) (fun h => absurd h (by decide)) (Nat.le_refl _) (Nat.le_refl _) (ck_drawBelow hal (kx_dw_lt _) h2.2 cp (by omega) ?_)
      have h3 := kTg_up (G' := kx_dw (kx_dw (kx_dw G))) h2
      have r3 := fr es2 (kSg (kx_dw (kx_dw (kx_dw G))))
      generalize ax_up es2 149 (kSg (kx_dw (kx_dw (kx_dw G)))) = es3 at h3 r3 ⊢
      simp only [ax_W_cons, ax_I, ax_cmp, ax_ii, ax_ll, ax_li, ax_st1, ax_st2, ax_kl, ax_k2, ax_fit, ax_rtok, List.getElem?_cons_zero, List.getElem?_cons_succ, List.length_cons, List.length_nil, List.set_cons_zero, List.set_cons_succ, Nat.reduceAdd, Nat.reduceDiv, Nat.reduceMod, Nat.reduceMul, Nat.reduceLT, Nat.reduceLeDiff, Int32.reduceOfInt, Int64.reduceOfInt, true_and, and_true, and_self, true_or, or_true, false_implies, true_implies, not_false_eq_true, not_true_eq_false, Value.category, Nat.reduceEqDiff, Option.toList, List.cons_append, List.nil_append, List.drop_succ_cons, List.drop_zero, ax_qq_eq, ax_t_1050]
      refine ax_inv_of (Nat.le_of_ble_eq_true rfl) (Nat.le_of_ble_eq_true rfl) (fun _ => rc es3 ⟨_, h3.2⟩ _) (fun h => absurd h (by decide)) (Nat.le_refl _) (Nat.le_refl _) (ck_actIfCan hal hk hk0 hp h3 11 _ _ ?_)
      intro es4 h4 r4
      simp only [ax_W_cons, ax_I, ax_cmp, ax_ii, ax_ll, ax_li, ax_st1, ax_st2, ax_kl, ax_k2, ax_fit, ax_rtok, List.getElem?_cons_zero, List.getElem?_cons_succ, List.length_cons, List.length_nil, List.set_cons_zero, List.set_cons_succ, Nat.reduceAdd, Nat.reduceDiv, Nat.reduceMod, Nat.reduceMul, Nat.reduceLT, Nat.reduceLeDiff, Int32.reduceOfInt, Int64.reduceOfInt, true_and, and_true, and_self, true_or, or_true, false_implies, true_implies, not_false_eq_true, not_true_eq_false, Value.category, Nat.reduceEqDiff, Option.toList, List.cons_append, List.nil_append, List.drop_succ_cons, List.drop_zero, ax_qq_eq, ax_t_1050, ax_j_1050_130, ax_n_1050_130]
      exact hQ es4 h4 (ksf_trans r1 (ksf_trans r2 (ksf_trans r3 r4)))
    · rw [if_neg (fun z => cp z.2)] at hQ
      have e5 : nI p ≤ 0 := by rw [show p = 0 by omega]; decide
      simp only [ax_W_cons, ax_I, ax_cmp, ax_ii, ax_ll, ax_li, ax_st1, ax_st2, ax_kl, ax_k2, ax_fit, ax_rtok, List.getElem?_cons_zero, List.getElem?_cons_succ, List.length_cons, List.length_nil, List.set_cons_zero, List.set_cons_succ, Nat.reduceAdd, Nat.reduceDiv, Nat.reduceMod, Nat.reduceMul, Nat.reduceLT, Nat.reduceLeDiff, Int32.reduceOfInt, Int64.reduceOfInt, true_and, and_true, and_self, true_or, or_true, false_implies, true_implies, not_false_eq_true, not_true_eq_false, Value.category, Nat.reduceEqDiff, Option.toList, List.cons_append, List.nil_append, List.drop_succ_cons, List.drop_zero, ax_qq_eq, ax_t_1050, ax_j_1050_42, ax_n_1050_42, ax_j_1050_68, ax_n_1050_68, ax_j_1050_84, ax_n_1050_84, ax_j_1050_130, ax_n_1050_130, e1, e2, e3, e4, e5, y149, kSg, y0, kb_o, hal]
      exact hQ es1 h1 r1
  · rw [if_neg (fun z => c6 z.1)] at hQ
    have e4 : ¬ nI (kx_db G 8) = 6 := fun z => c6 (kn_inj (b := 6) (by omega) (by decide) z)
    simp only [ax_W_cons, ax_I, ax_cmp, ax_ii, ax_ll, ax_li, ax_st1, ax_st2, ax_kl, ax_k2, ax_fit, ax_rtok, List.getElem?_cons_zero, List.getElem?_cons_succ, List.length_cons, List.length_nil, List.set_cons_zero, List.set_cons_succ, Nat.reduceAdd, Nat.reduceDiv, Nat.reduceMod, Nat.reduceMul, Nat.reduceLT, Nat.reduceLeDiff, Int32.reduceOfInt, Int64.reduceOfInt, true_and, and_true, and_self, true_or, or_true, false_implies, true_implies, not_false_eq_true, not_true_eq_false, Value.category, Nat.reduceEqDiff, Option.toList, List.cons_append, List.nil_append, List.drop_succ_cons, List.drop_zero, ax_qq_eq, ax_t_1050, ax_j_1050_42, ax_n_1050_42, ax_j_1050_68, ax_n_1050_68, ax_j_1050_84, ax_n_1050_84, ax_j_1050_130, ax_n_1050_130, e1, e2, e3, e4]
    exact hQ es1 h1 r1
end KS
/-- drawn, the state, what all did -/
def kx_y1 (F1 F2 : Int32 → Int32 → Int32 → Int32 → Int32) (k p : Nat) (kd ht hs : Nat → Int32) (hc : Nat) (D : Nat × kSt) (a : Int32) : Nat × kSt × Int32 := (D.1, kx_jb F1 F2 k p kd ht hs hc D.2, a + kx_all (kx_dd F1 F2 k kd ht D.2.2.1 hs hc D.2.1 D.2.2.2.1 D.2.2.2.2.1) p 1)
def kx_yr (F1 F2 : Int32 → Int32 → Int32 → Int32 → Int32) (k p : Nat) (kd ht hs : Nat → Int32) (hc : Nat) (G : Nat) (s : kSt) : Nat → Nat × kSt × Int32
  | 0 => (G, s, 0)
  | m + 1 => kx_y1 F1 F2 k p kd ht hs hc (kx_da k p (kx_yr F1 F2 k p kd ht hs hc G s m).1 (kx_yr F1 F2 k p kd ht hs hc G s m).2.1) (kx_yr F1 F2 k p kd ht hs hc G s m).2.2
theorem kx_yr_ok {F1 F2 : Int32 → Int32 → Int32 → Int32 → Int32} {k p : Nat} {kd ht hs : Nat → Int32} {hc G : Nat} {s : kSt} (hk : k ≤ 12) (hp : p ≤ 6) (hF : ∀ x0 x1 x2 x3, ∃ v, v ≤ 99 ∧ F1 x0 x1 x2 x3 = nI v) (hG : kGo G) (hs0 : kSv k p s) : ∀ m, kGo (kx_yr F1 F2 k p kd ht hs hc G s m).1 ∧ kSv k p (kx_yr F1 F2 k p kd ht hs hc G s m).2.1 ∧ (kx_yr F1 F2 k p kd ht hs hc G s m).2.1.1 = s.1 + m
  := by
  intro m
  induction m with
  | zero => exact ⟨hG, hs0, rfl⟩
  | succ m ih =>
    obtain ⟨a1, a2, a3⟩ := ih
    rw [kx_yr]
    generalize kx_yr F1 F2 k p kd ht hs hc G s m = y at a1 a2 a3 ⊢
    have b1 := kx_da_lt k p y.1 y.2.1
    have b2 := kSv_da (G := y.1) hk hp a2
    have b3 := kx_da_T k p y.1 y.2.1
    generalize kx_da k p y.1 y.2.1 = D at b1 b2 b3 ⊢
    obtain ⟨G', T', cr', sh', pl', dn'⟩ := D
    have b1 : kGo G' := b1
    have b2 : ks sh' ∧ kpl k p pl' := b2
    have b3 : T' = y.2.1.1 := b3
    refine ⟨b1, ⟨ks_dr hk hF b2.1 1, b2.2⟩, ?_⟩
    show T' + 1 = _
    omega
section KS
variable {d n sl k p hc : Nat} {es : ax_H} {kd pl0 ht hs : Nat → Int32} {F1 F2 : Int32 → Int32 → Int32 → Int32 → Int32} {T : Nat} {cr : Int32} {sh pl dn : Nat → Int32}
theorem ck_drawYears (hS : kSe es n F1) (hW : kW es n k p hc kd pl0 ht hs F1 F2 T cr sh pl dn) {sd b : Nat} (hsd : sd ≤ 9999) (hb9 : b ≤ 99) (wh : Int32) {Q : Option Value → ax_H → Prop} (hQ : ∀ es', kSe es' n F1 → ksf es es' → Q (some (.int (if wh = 0 then (kx_yr F1 F2 k p kd ht hs hc sd (T, cr, sh, pl, dn) b).2.2 else if wh = 1 then kx_pop (kx_bits (kx_yr F1 F2 k p kd ht hs hc sd (T, cr, sh, pl, dn) b).2.1.2.2.1 k) else kx_arc k (kx_yr F1 F2 k p kd ht hs hc sd (T, cr, sh, pl, dn) b).2.1.2.2.1 (nI 0) k))) es') : ax_Mt (d + 6) 1049 [.ref 149, .int (nI sd), .int (nI b), .int wh] n sl es Q := by
  obtain ⟨hal, hk, hp, hhs, hsh, hpl, hT, hC, hb⟩ := id hW
  obtain ⟨dr, h149⟩ := hS.2.1.1
  have hok := kx_yr_ok (F2 := F2) (kd := kd) (ht := ht) (hs := hs) (hc := hc) (G := sd) (s := (T, cr, sh, pl, dn)) hk.2 hp (kC_F hC) (show sd < 2147483648 by omega) ⟨hsh, hpl⟩
  have e1 : (nI sd).toInt64 = nL sd := nI_64 (by omega)
  refine ax_Mt_go (m := ax_m_8_25) (ls := [some (.ref 149), some (.int (nI sd)), some (.int (nI b)), some (.int wh), none, none]) rfl ax_b_1049_0 (Nat.le_of_ble_eq_true rfl) rfl ?_
  simp only [ax_W_cons, ax_I, ax_cmp, ax_ii, ax_ll, ax_li, ax_st1, ax_st2, ax_kl, ax_k2, ax_fit, ax_rtok, List.getElem?_cons_zero, List.getElem?_cons_succ, List.length_cons, List.length_nil, List.set_cons_zero, List.set_cons_succ, Nat.reduceAdd, Nat.reduceDiv, Nat.reduceMod, Nat.reduceMul, Nat.reduceLT, Nat.reduceLeDiff, Int32.reduceOfInt, Int64.reduceOfInt, true_and, and_true, and_self, true_or, or_true, false_implies, true_implies, not_false_eq_true, not_true_eq_false, Value.category, Nat.reduceEqDiff, Option.toList, List.cons_append, List.nil_append, List.drop_succ_cons, List.drop_zero, ax_qq_eq, ax_t_1049, h149, hal]
  refine ax_inv_of (Nat.le_of_ble_eq_true rfl) (Nat.le_of_ble_eq_true rfl) (fun _ => kSe_rcv hal hS _) (fun h => absurd h (by decide)) (Nat.le_refl _) (Nat.le_refl _) (ax_Mt_mono (cs_copyW (by omega) hS hW) ?_)
  rintro r es2 ⟨rfl, m1, m2⟩
  obtain ⟨dr2, w149⟩ := m1.2.1.1
  have m1' : kTg (ax_up es2 149 (kSg sd)) n F1 k p sd (T, cr, sh, pl, dn) := by
    obtain ⟨⟨p0, ⟨ps1, pg1, p1, p2⟩, ⟨ps2, pg2, p3, p4⟩, ⟨pah, p5, p6⟩, pfd, p7, p8⟩, ⟨⟨dr, h1⟩, ⟨k9, p9, t9, cr9, sh9, pl9, dn9, h2⟩, ty0, h3, h5⟩, h4⟩ := m1
    refine ⟨⟨⟨?_, ⟨ps1, pg1, ?_, ?_⟩, ⟨ps2, pg2, ?_, ?_⟩, ⟨pah, ?_, p6⟩, pfd, ?_, p8⟩, ⟨⟨nL sd, ?_⟩, ⟨k9, p9, t9, cr9, sh9, pl9, dn9, kb_fr h2 (fun j hj => ax_up_ne _ _ (by omega))⟩, ty0, ?_, h5⟩, kb_fr h4 (fun j hj => ax_up_ne _ _ (by omega))⟩, ax_up_same ..⟩
    all_goals first | exact ax_up_same .. | (rw [ax_up_ne _ _ (by decide)]; assumption)
  have m2' : ksf es (ax_up es2 149 (kSg sd)) := ksf_trans m2 (fun j hj => ax_up_ne _ _ (by omega))
  simp only [ax_W_cons, ax_I, ax_cmp, ax_ii, ax_ll, ax_li, ax_st1, ax_st2, ax_kl, ax_k2, ax_fit, ax_rtok, List.getElem?_cons_zero, List.getElem?_cons_succ, List.length_cons, List.length_nil, List.set_cons_zero, List.set_cons_succ, Nat.reduceAdd, Nat.reduceDiv, Nat.reduceMod, Nat.reduceMul, Nat.reduceLT, Nat.reduceLeDiff, Int32.reduceOfInt, Int64.reduceOfInt, true_and, and_true, and_self, true_or, or_true, false_implies, true_implies, not_false_eq_true, not_true_eq_false, Value.category, Nat.reduceEqDiff, Option.toList, List.cons_append, List.nil_append, List.drop_succ_cons, List.drop_zero, ax_qq_eq, ax_t_1049, w149, hal, e1]
  have e2 : ax_up es2 149 (.inr (8, [.ref 146, .ref 38, .ref 42, .ref 150, .ref 154, .ref 158, .long (nL sd)])) = ax_up es2 149 (kSg sd) := rfl
  rw [e2, ax_n_1049_23]
  generalize ax_up es2 149 (kSg sd) = es3 at m1' m2' ⊢
  generalize hY : kx_yr F1 F2 k p kd ht hs hc sd (T, cr, sh, pl, dn) = Y at hQ hok
  have L := kx_loop (k := b) (I := fun m => ∀ es1, kTg es1 n F1 k p (Y m).1 (Y m).2.1 → ksf es es1 → ax_W (d + 6) n sl 1049 [(2, .iload 5), (1, .iload 2), (3, .if_icmp .ge 56), (1, .aload 0), (3, .invokeinterface 1050 5), (2, .iload 4), (1, .aload 0), (3, .getfield 2050), (1, .aload 0), (3, .getfield 2062), (1, .iconst 1), (3, .invokeinterface 642 13), (1, .iadd), (2, .istore 4), (3, .iinc 5 1), (3, .goto 23)] 23 [some (.ref 149), some (.int (nI sd)), some (.int (nI b)), some (.int wh), some (.int (Y m).2.2), some (.int (nI m))] [] n sl es1 (ax_qq n sl Q)) ?_ ?_
  · have y0 : Y 0 = (sd, (T, cr, sh, pl, dn), 0) := by rw [← hY, kx_yr]
    rw [y0] at L
    exact L es3 m1' m2'
  · intro es1 i1 i2
    have e0 := kx_nn (k := b) (by omega)
    have w149 := i1.2
    have y0 := i1.1.2.2.2.1
    have hQ := hQ es1 (kT_kSe i1.1) i2
    simp only [ax_W_cons, ax_I, ax_cmp, ax_ii, ax_ll, ax_li, ax_st1, ax_st2, ax_kl, ax_k2, ax_fit, ax_rtok, List.getElem?_cons_zero, List.getElem?_cons_succ, List.length_cons, List.length_nil, List.set_cons_zero, List.set_cons_succ, Nat.reduceAdd, Nat.reduceDiv, Nat.reduceMod, Nat.reduceMul, Nat.reduceLT, Nat.reduceLeDiff, Int32.reduceOfInt, Int64.reduceOfInt, true_and, and_true, and_self, true_or, or_true, false_implies, true_implies, not_false_eq_true, not_true_eq_false, Value.category, Nat.reduceEqDiff, Option.toList, List.cons_append, List.nil_append, List.drop_succ_cons, List.drop_zero, ax_qq_eq, ax_t_1049, ax_j_1049_56, ax_n_1049_56, ax_j_1049_63, ax_n_1049_63, ax_j_1049_81, ax_n_1049_81, e0, w149, kSg, y0, kb_o, hal]
    refine ⟨fun h0 => ⟨fun h1 => ?_, fun h1 => ?_⟩, fun h0 => ?_⟩
    · rw [if_neg h0, if_neg h1] at hQ
      refine ax_inv_eq (Nat.le_of_ble_eq_true rfl) (Nat.le_of_ble_eq_true rfl) (fun _ => kSe_rcv hal (kT_kSe i1.1) _) (fun h => absurd h (by decide)) (Nat.le_refl _) (Nat.le_refl _) (ck_sumFrom (by omega) hk.2 (by omega) i1.1.2.2 0 k (by omega) hk.2) ?_
      simp only [ax_W_cons, ax_I, ax_cmp, ax_ii, ax_ll, ax_li, ax_st1, ax_st2, ax_kl, ax_k2, ax_fit, ax_rtok, List.getElem?_cons_zero, List.getElem?_cons_succ, List.length_cons, List.length_nil, List.set_cons_zero, List.set_cons_succ, Nat.reduceAdd, Nat.reduceDiv, Nat.reduceMod, Nat.reduceMul, Nat.reduceLT, Nat.reduceLeDiff, Int32.reduceOfInt, Int64.reduceOfInt, true_and, and_true, and_self, true_or, or_true, false_implies, true_implies, not_false_eq_true, not_true_eq_false, Value.category, Nat.reduceEqDiff, Option.toList, List.cons_append, List.nil_append, List.drop_succ_cons, List.drop_zero, ax_qq_eq, ax_t_1049, ax_j_1049_96, ax_n_1049_96]
      exact hQ
    · simp only [Classical.not_not] at h1
      rw [if_neg h0, if_pos h1] at hQ
      refine ax_inv_eq (Nat.le_of_ble_eq_true rfl) (Nat.le_of_ble_eq_true rfl) (fun _ => kSe_rcv hal (kT_kSe i1.1) _) (fun h => absurd h (by decide)) (Nat.le_refl _) (Nat.le_refl _) (ck_shakingBits hk.2 i1.1.2.2) ?_
      simp only [ax_W_cons, ax_I, ax_cmp, ax_ii, ax_ll, ax_li, ax_st1, ax_st2, ax_kl, ax_k2, ax_fit, ax_rtok, List.getElem?_cons_zero, List.getElem?_cons_succ, List.length_cons, List.length_nil, List.set_cons_zero, List.set_cons_succ, Nat.reduceAdd, Nat.reduceDiv, Nat.reduceMod, Nat.reduceMul, Nat.reduceLT, Nat.reduceLeDiff, Int32.reduceOfInt, Int64.reduceOfInt, true_and, and_true, and_self, true_or, or_true, false_implies, true_implies, not_false_eq_true, not_true_eq_false, Value.category, Nat.reduceEqDiff, Option.toList, List.cons_append, List.nil_append, List.drop_succ_cons, List.drop_zero, ax_qq_eq, ax_t_1049]
      refine ax_inv_eq (Nat.le_of_ble_eq_true rfl) (Nat.le_of_ble_eq_true rfl) (fun _ => absurd ‹_› (by decide)) (fun h => absurd h (by decide)) (Nat.le_refl _) (Nat.le_refl _) (ck_bitCount _ n sl _ _) ?_
      simp only [ax_W_cons, ax_I, ax_cmp, ax_ii, ax_ll, ax_li, ax_st1, ax_st2, ax_kl, ax_k2, ax_fit, ax_rtok, List.getElem?_cons_zero, List.getElem?_cons_succ, List.length_cons, List.length_nil, List.set_cons_zero, List.set_cons_succ, Nat.reduceAdd, Nat.reduceDiv, Nat.reduceMod, Nat.reduceMul, Nat.reduceLT, Nat.reduceLeDiff, Int32.reduceOfInt, Int64.reduceOfInt, true_and, and_true, and_self, true_or, or_true, false_implies, true_implies, not_false_eq_true, not_true_eq_false, Value.category, Nat.reduceEqDiff, Option.toList, List.cons_append, List.nil_append, List.drop_succ_cons, List.drop_zero, ax_qq_eq, ax_t_1049, ax_j_1049_96, ax_n_1049_96]
      exact hQ
    · simp only [Classical.not_not] at h0
      rw [if_pos h0] at hQ
      exact hQ
  · intro m hm ih es1 i1 i2
    obtain ⟨f1, -, -, f4⟩ := kx_ix (N := 99) hm hb9 (by decide)
    obtain ⟨a1, a2, a3⟩ := hok m
    have w149 := i1.2
    have hY1 : Y (m + 1) = kx_y1 F1 F2 k p kd ht hs hc (kx_da k p (Y m).1 (Y m).2.1) (Y m).2.2 := by rw [← hY, kx_yr]
    simp only [ax_W_cons, ax_I, ax_cmp, ax_ii, ax_ll, ax_li, ax_st1, ax_st2, ax_kl, ax_k2, ax_fit, ax_rtok, List.getElem?_cons_zero, List.getElem?_cons_succ, List.length_cons, List.length_nil, List.set_cons_zero, List.set_cons_succ, Nat.reduceAdd, Nat.reduceDiv, Nat.reduceMod, Nat.reduceMul, Nat.reduceLT, Nat.reduceLeDiff, Int32.reduceOfInt, Int64.reduceOfInt, true_and, and_true, and_self, true_or, or_true, false_implies, true_implies, not_false_eq_true, not_true_eq_false, Value.category, Nat.reduceEqDiff, Option.toList, List.cons_append, List.nil_append, List.drop_succ_cons, List.drop_zero, ax_qq_eq, ax_t_1049, f1]
    refine ax_inv_of (Nat.le_of_ble_eq_true rfl) (Nat.le_of_ble_eq_true rfl) (fun _ => ax_rcv_ok (by omega) w149) (fun h => absurd h (by decide)) (Nat.le_refl _) (Nat.le_refl _) (ck_drawAct hal hk.2 (by omega) hp a1 i1 ?_)
    intro es4 h4 r4
    have b2 := kSv_da (G := (Y m).1) hk.2 hp a2
    have b3 := kx_da_T k p (Y m).1 (Y m).2.1
    rw [hY1] at ih
    generalize kx_da k p (Y m).1 (Y m).2.1 = D at ih h4 b2 b3 ⊢
    obtain ⟨G', T', cr', sh', pl', dn'⟩ := D
    have h4 : kTg es4 n F1 k p G' (T', cr', sh', pl', dn') := h4
    have b2 : ks sh' ∧ kpl k p pl' := b2
    have b3 : T' = (Y m).2.1.1 := b3
    have ih : ∀ es1, kTg es1 n F1 k p G' (T' + 1, cr', kx_dr F1 k cr' hs hc T' sh' 1, pl', kx_pdn (kx_dd F1 F2 k kd ht cr' hs hc T' sh' pl') p dn' 1) → ksf es es1 → ax_W (d + 6) n sl 1049 [(2, .iload 5), (1, .iload 2), (3, .if_icmp .ge 56), (1, .aload 0), (3, .invokeinterface 1050 5), (2, .iload 4), (1, .aload 0), (3, .getfield 2050), (1, .aload 0), (3, .getfield 2062), (1, .iconst 1), (3, .invokeinterface 642 13), (1, .iadd), (2, .istore 4), (3, .iinc 5 1), (3, .goto 23)] 23 [some (.ref 149), some (.int (nI sd)), some (.int (nI b)), some (.int wh), some (.int ((Y m).2.2 + kx_all (kx_dd F1 F2 k kd ht cr' hs hc T' sh' pl') p 1)), some (.int (nI (m + 1)))] [] n sl es1 (ax_qq n sl Q) := ih
    have x149 := h4.2
    have a3 : (Y m).2.1.1 = T + m := a3
    have i4 := ksf_trans i2 r4
    simp only [ax_W_cons, ax_I, ax_cmp, ax_ii, ax_ll, ax_li, ax_st1, ax_st2, ax_kl, ax_k2, ax_fit, ax_rtok, List.getElem?_cons_zero, List.getElem?_cons_succ, List.length_cons, List.length_nil, List.set_cons_zero, List.set_cons_succ, Nat.reduceAdd, Nat.reduceDiv, Nat.reduceMod, Nat.reduceMul, Nat.reduceLT, Nat.reduceLeDiff, Int32.reduceOfInt, Int64.reduceOfInt, true_and, and_true, and_self, true_or, or_true, false_implies, true_implies, not_false_eq_true, not_true_eq_false, Value.category, Nat.reduceEqDiff, Option.toList, List.cons_append, List.nil_append, List.drop_succ_cons, List.drop_zero, ax_qq_eq, ax_t_1049, x149, kSg, hal]
    obtain ⟨hR1, hTo1, h3⟩ := id h4.1
    refine ax_inv_of (Nat.le_of_ble_eq_true rfl) (Nat.le_of_ble_eq_true rfl) (fun _ => kR_rcv hal hR1 _) (fun h => absurd h (by decide)) (Nat.le_refl _) (Nat.le_refl _) (ax_Mt_mono (ck_pass (q := 150) (m := 1) (by omega) hal hk.2 hp kap150 b2.2 (by omega) hhs b2.1 (kC_sf hC i4) hR1 h3) ?_)
    rintro r es5 ⟨rfl, n1, n2, n3⟩
    simp only [ax_W_cons, ax_I, ax_cmp, ax_ii, ax_ll, ax_li, ax_st1, ax_st2, ax_kl, ax_k2, ax_fit, ax_rtok, List.getElem?_cons_zero, List.getElem?_cons_succ, List.length_cons, List.length_nil, List.set_cons_zero, List.set_cons_succ, Nat.reduceAdd, Nat.reduceDiv, Nat.reduceMod, Nat.reduceMul, Nat.reduceLT, Nat.reduceLeDiff, Int32.reduceOfInt, Int64.reduceOfInt, true_and, and_true, and_self, true_or, or_true, false_implies, true_implies, not_false_eq_true, not_true_eq_false, Value.category, Nat.reduceEqDiff, Option.toList, List.cons_append, List.nil_append, List.drop_succ_cons, List.drop_zero, ax_qq_eq, ax_t_1049, f4]
    rw [ax_j_1049_23]
    exact ih es5 ⟨⟨n1, kTo_fr hTo1 (fun j hj => n3 j (by omega)), n2⟩, (n3 149 (by omega)).trans x149⟩ (ksf_trans i4 (kfr_ksf (Or.inl rfl) n3))
end KS
