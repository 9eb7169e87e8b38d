/-! the reference: its object at 159, its rows behind it -/
def mo_f (th tp sz at0 fl cd nm rm on fh un : Int32) (g : Int64) : List Value := [.int th, .ref 160, .int tp, .int sz, .ref 161, .ref 162, .ref 163, .int at0, .int fl, .ref 164, .ref 165, .ref 166, .ref 167, .int cd, .ref 168, .ref 169, .int nm, .int rm, .int on, .int fh, .ref 170, .ref 171, .ref 172, .ref 173, .int un, .ref 174, .ref 175, .ref 176, .long g]
def mO (es : ax_H) : Prop := ∃ th tp sz at0 fl cd nm rm on fh un g, es 159 = .inr (11, mo_f th tp sz at0 fl cd nm rm on fh un g)
/-- one sign of a law, in the reference's own numbers -/
def mo_both (c x y : Int32) : Int32 := if c = 4 then x + y else if c = 5 then x - y else if c = 6 then x * y else if c = 7 then (if x < y then 1 else 0) else if c = 8 then (if x = y then 1 else 0) else if c = 9 then (if x = 0 then 0 else if y = 0 then 0 else 1) else (if x = 0 then (if y = 0 then 0 else 1) else 1)
def mo_step (g : Nat → Int32) (c a : Int32) (ms : Nat × (Nat → Int32)) : Nat × (Nat → Int32) :=
  if c = 1 then (ms.1 + 1, upd ms.2 ms.1 a) else if c = 2 then (ms.1 + 1, upd ms.2 ms.1 (g a.toNatClampNeg))
  else if c = 3 then (ms.1, upd ms.2 (ms.1 - 1) (if ms.2 (ms.1 - 1) = 0 then 1 else 0))
  else (ms.1 - 1, upd ms.2 (ms.1 - 2) (mo_both c (ms.2 (ms.1 - 2)) (ms.2 (ms.1 - 1))))
def mo_run (g op ar : Nat → Int32) (a : Nat) (s0 : Nat → Int32) : Nat → Nat × (Nat → Int32)
  | 0 => (0, s0)
  | m + 1 => mo_step g (op (a + m)) (ar (a + m)) (mo_run g op ar a s0 m)
def mo_good (c a : Int32) (t : Nat) : Prop := ¬ c = 0 ∧ ((c = 1 ∧ t < 1100) ∨ (c = 2 ∧ t < 1100 ∧ vp_in a 4) ∨ (c = 3 ∧ 1 ≤ t) ∨ (¬ c = 1 ∧ ¬ c = 2 ∧ ¬ c = 3 ∧ 2 ≤ t)) ∧ t ≤ 1100
/-- a law of the reference and what it comes to -/
def ml_ok (op ar : Nat → Int32) (a : Nat) (G : (Nat → Int32) → Int32) : Prop := ∃ len, a + len < 1100 ∧ op (a + len) = 0 ∧ (∀ g s m, m < len → mo_good (op (a + m)) (ar (a + m)) (mo_run g op ar a s m).1) ∧ ∀ g s, kx_max 0 (kx_min 99 ((mo_run g op ar a s len).2 0)) = G g
def mCt (ct : Nat → Int32) (k p hc : Nat) (kd pm ht hs : Nat → Int32) : Prop := ct 0 = nI k ∧ ct 1 = nI p ∧ ct 2 = nI hc ∧ (∀ i, i < p → ct (5 + 3 * i) = kd i - 13 ∧ ct (5 + 3 * i + 1) = pm i ∧ ct (5 + 3 * i + 2) = ht i) ∧ ∀ i, i < hc → ct (23 + i) = hs i
def mLw (ct op ar : Nat → Int32) (F1 F2 : Int32 → Int32 → Int32 → Int32 → Int32) : Prop := ((ct 3 = -1 ∧ ∀ x0 x1 x2 x3, F1 x0 x1 x2 x3 = 1) ∨ ∃ a, ct 3 = nI a ∧ ml_ok op ar a (fun g => F1 (g 0) (g 1) (g 2) 0)) ∧ ((ct 4 = -1 ∧ ∀ x0 x1 x2 x3, F2 x0 x1 x2 x3 = kx_max 0 (kx_min 99 x0)) ∨ ∃ a, ct 4 = nI a ∧ ml_ok op ar a (fun g => F2 (g 0) (g 1) (g 2) (g 3)))
def mK (es : ax_H) (k p hc : Nat) (kd pm ht hs : Nat → Int32) (F1 F2 : Int32 → Int32 → Int32 → Int32 → Int32) : Prop := mO es ∧ ∃ ct op ar, es 165 = .inl (0, 80, .inl ct) ∧ es 166 = .inl (0, 2200, .inl op) ∧ es 167 = .inl (0, 2200, .inl ar) ∧ mCt ct k p hc kd pm ht hs ∧ mLw ct op ar F1 F2
/-- the rows written over at will, and the states -/
def mX (es : ax_H) (st : Nat → Int32) : Prop := es 173 = .inl (0, 1196, .inl st) ∧ (∃ fa, es 171 = .inl (0, 4, .inl fa)) ∧ (∃ pi, es 172 = .inl (0, 1100, .inl pi)) ∧ ∃ wa, es 175 = .inl (0, 12, .inl wa)
def mfr (es es' : ax_H) : Prop := ∀ j, j ≠ 171 ∧ j ≠ 172 ∧ j ≠ 173 ∧ j ≠ 175 → es' j = es j
theorem mfr_rf (es : ax_H) : mfr es es := fun _ _ => rfl
theorem mfr_trans {a b c : ax_H} (h1 : mfr a b) (h2 : mfr b c) : mfr a c := fun j hj => (h2 j hj).trans (h1 j hj)
theorem mK_fr {es es' : ax_H} {k p hc : Nat} {kd pm ht hs : Nat → Int32} {F1 F2 : Int32 → Int32 → Int32 → Int32 → Int32} (h : mK es k p hc kd pm ht hs F1 F2) (hf : mfr es es') : mK es' k p hc kd pm ht hs F1 F2 := by
  obtain ⟨⟨th, tp, sz, at0, fl, cd, nm, rm, on, fh, un, g, h0⟩, ct, op, ar, h1, h2, h3, h4⟩ := h
  exact ⟨⟨th, tp, sz, at0, fl, cd, nm, rm, on, fh, un, g, by rw [hf 159 (by decide)]; exact h0⟩, ct, op, ar, by rw [hf 165 (by decide)]; exact h1, by rw [hf 166 (by decide)]; exact h2, by rw [hf 167 (by decide)]; exact h3, h4⟩
theorem mX_up {es : ax_H} {st f : Nat → Int32} (h : mX es st) : mX (ax_up es 173 (.inl (0, 1196, .inl f))) f := by
  obtain ⟨h1, ⟨fa, h2⟩, ⟨pi, h3⟩, wa, h4⟩ := h
  exact ⟨ax_up_same .., ⟨fa, by rw [ax_up_ne _ _ (by decide)]; exact h2⟩, ⟨pi, by rw [ax_up_ne _ _ (by decide)]; exact h3⟩, wa, by rw [ax_up_ne _ _ (by decide)]; exact h4⟩
theorem mfr_up (es : ax_H) (e : ax_E) : mfr es (ax_up es 173 e) := fun j hj => ax_up_ne _ _ hj.2.2.1
/-- a state at b, seen as a bowl -/
def mV (st : Nat → Int32) (b k p T C : Nat) (sh pl dn : Nat → Int32) : Prop := st b = nI T ∧ st (b + 1) = nI C ∧ (∀ c, c < k → st (b + 2 + c) = sh c) ∧ (∀ i, i < p → st (b + 14 + i) = pl i) ∧ ∀ i, i < p → st (b + 20 + i) = dn i
def mfs (b : Nat) (st st' : Nat → Int32) : Prop := ∀ j, (j < b ∨ b + 26 ≤ j) → st' j = st j
theorem mfs_rf (b : Nat) (st : Nat → Int32) : mfs b st st := fun _ _ => rfl
theorem mfs_trans {b : Nat} {a c e : Nat → Int32} (h1 : mfs b a c) (h2 : mfs b c e) : mfs b a e := fun j hj => (h2 j hj).trans (h1 j hj)
theorem mfs_up {b j : Nat} (st : Nat → Int32) (x : Int32) (h : b ≤ j ∧ j < b + 26) : mfs b st (upd st j x) := fun i hi => by
  unfold upd
  rw [if_neg (by omega)]
theorem upd_same (f : Nat → Int32) (i : Nat) (x : Int32) : upd f i x i = x := by simp [upd]
theorem upd_ne (f : Nat → Int32) {i j : Nat} (x : Int32) (h : j ≠ i) : upd f i x j = f j := by simp [upd, h]
theorem mV_sh {st : Nat → Int32} {b k p T C : Nat} {sh pl dn : Nat → Int32} (hk : k ≤ 12) (hp : p ≤ 6) (h : mV st b k p T C sh pl dn) {c : Nat} (hc : c < k) (x : Int32) : mV (upd st (b + 2 + c) x) b k p T C (upd sh c x) pl dn := by
  obtain ⟨h1, h2, h3, h4, h5⟩ := h
  refine ⟨by rw [upd_ne _ _ (by omega)]; exact h1, by rw [upd_ne _ _ (by omega)]; exact h2, fun i hi => ?_, fun i hi => by rw [upd_ne _ _ (by omega)]; exact h4 i hi, fun i hi => by rw [upd_ne _ _ (by omega)]; exact h5 i hi⟩
  by_cases e : i = c
  · subst e
    rw [upd_same, upd_same]
  · rw [upd_ne _ _ (by omega), upd_ne _ _ e]
    exact h3 i hi
theorem mV_pl {st : Nat → Int32} {b k p T C : Nat} {sh pl dn : Nat → Int32} (hk : k ≤ 12) (hp : p ≤ 6) (h : mV st b k p T C sh pl dn) {c : Nat} (hc : c < p) (x : Int32) : mV (upd st (b + 14 + c) x) b k p T C sh (upd pl c x) dn := by
  obtain ⟨h1, h2, h3, h4, h5⟩ := h
  refine ⟨by rw [upd_ne _ _ (by omega)]; exact h1, by rw [upd_ne _ _ (by omega)]; exact h2, fun i hi => by rw [upd_ne _ _ (by omega)]; exact h3 i hi, fun i hi => ?_, fun i hi => by rw [upd_ne _ _ (by omega)]; exact h5 i hi⟩
  by_cases e : i = c
  · subst e
    rw [upd_same, upd_same]
  · rw [upd_ne _ _ (by omega), upd_ne _ _ e]
    exact h4 i hi
theorem mV_dn {st : Nat → Int32} {b k p T C : Nat} {sh pl dn : Nat → Int32} (hk : k ≤ 12) (hp : p ≤ 6) (h : mV st b k p T C sh pl dn) {c : Nat} (hc : c < p) (x : Int32) : mV (upd st (b + 20 + c) x) b k p T C sh pl (upd dn c x) := by
  obtain ⟨h1, h2, h3, h4, h5⟩ := h
  refine ⟨by rw [upd_ne _ _ (by omega)]; exact h1, by rw [upd_ne _ _ (by omega)]; exact h2, fun i hi => by rw [upd_ne _ _ (by omega)]; exact h3 i hi, fun i hi => by rw [upd_ne _ _ (by omega)]; exact h4 i hi, fun i hi => ?_⟩
  by_cases e : i = c
  · subst e
    rw [upd_same, upd_same]
  · rw [upd_ne _ _ (by omega), upd_ne _ _ e]
    exact h5 i hi
theorem mV_cr {st : Nat → Int32} {b k p T C : Nat} {sh pl dn : Nat → Int32} (h : mV st b k p T C sh pl dn) (C' : Nat) : mV (upd st (b + 1) (nI C')) b k p T C' sh pl dn := by
  obtain ⟨h1, h2, h3, h4, h5⟩ := h
  exact ⟨by rw [upd_ne _ _ (by omega)]; exact h1, upd_same .., fun i hi => by rw [upd_ne _ _ (by omega)]; exact h3 i hi, fun i hi => by rw [upd_ne _ _ (by omega)]; exact h4 i hi, fun i hi => by rw [upd_ne _ _ (by omega)]; exact h5 i hi⟩
theorem mV_T {st : Nat → Int32} {b k p T C : Nat} {sh pl dn : Nat → Int32} (h : mV st b k p T C sh pl dn) (T' : Nat) : mV (upd st b (nI T')) b k p T' C sh pl dn := by
  obtain ⟨h1, h2, h3, h4, h5⟩ := h
  exact ⟨upd_same .., by rw [upd_ne _ _ (by omega)]; exact h2, fun i hi => by rw [upd_ne _ _ (by omega)]; exact h3 i hi, fun i hi => by rw [upd_ne _ _ (by omega)]; exact h4 i hi, fun i hi => by rw [upd_ne _ _ (by omega)]; exact h5 i hi⟩
/-! cracks as numbers -/
theorem kc_and {C i : Nat} : C &&& 2 ^ i = if C.testBit i = true then 2 ^ i else 0 := by
  apply Nat.eq_of_testBit_eq
  intro j
  rw [Nat.testBit_and, Nat.testBit_two_pow]
  by_cases h : i = j
  · subst h
    cases hB : C.testBit i <;> simp
  · cases hB : C.testBit i <;> simp [h, Nat.testBit_two_pow]
theorem kc_shl {i : Nat} (hi : i < 31) : (1 : Int32) <<< (nI i &&& 31) = nI (2 ^ i) := by
  have : ∀ i : Fin 31, (1 : Int32) <<< (nI i.val &&& 31) = nI (2 ^ i.val) := by decide +kernel
  exact this ⟨i, hi⟩
theorem kc_ck {C i : Nat} (hi : i < 31) : kx_ck (nI C) (nI i) = C.testBit i := by
  unfold kx_ck
  rw [kc_shl hi, fa_and, kc_and]
  cases C.testBit i
  · simp [nI_0]
  · have h2 : 2 ^ i < 2 ^ 31 := Nat.pow_lt_pow_right (by decide) hi
    simp [nI_ne0 (Nat.two_pow_pos i) h2]
theorem kc_crack {C i : Nat} (hi : i < 31) : kx_crack (nI C) (nI i) = nI (C ||| 2 ^ i) := by
  unfold kx_crack
  rw [kc_shl hi, fa_or]
theorem kc_bit {C i : Nat} (hC : C < 2 ^ 31) (hi : i < 31) : (nI C >>> (nI i &&& 31)) &&& 1 = nI (C.testBit i).toNat := by
  rw [kn_shr hC hi]
  have e := fa_mask (C / 2 ^ i) 1
  have e1 : (1 : Int32) = nI (2 ^ 1 - 1) := rfl
  rw [e1, e, Nat.testBit_eq_decide_div_mod_eq]
  have h2 : C / 2 ^ i % 2 < 2 := Nat.mod_lt _ (by decide)
  have h3 : C / 2 ^ i % 2 = 0 ∨ C / 2 ^ i % 2 = 1 := by omega
  rw [show (2 : Nat) ^ 1 = 2 from rfl]
  rcases h3 with h | h <;> rw [h] <;> rfl
theorem kx_kp (v : Int32) : (if v < 0 then 0 else if 99 < v then 99 else v) = kx_max 0 (kx_min 99 v) := by
  unfold kx_max kx_min
  by_cases h1 : v < 99
  · rw [if_pos h1]
    have h2 : ¬ (99 : Int32) < v := by rw [Int32.lt_iff_toInt_lt] at *; omega
    rw [if_neg h2]
    by_cases h0 : v < 0
    · have h3 : ¬ (0 : Int32) < v := by rw [Int32.lt_iff_toInt_lt] at *; omega
      rw [if_pos h0, if_neg h3]
    · rw [if_neg h0]
      by_cases h3 : (0 : Int32) < v
      · rw [if_pos h3]
      · rw [if_neg h3]
        apply Int32.toInt_inj.mp
        rw [Int32.lt_iff_toInt_lt] at *
        have : (0 : Int32).toInt = 0 := rfl
        omega
  · rw [if_neg h1]
    have h0 : ¬ v < 0 := by
      have e0 : (0 : Int32).toInt = 0 := rfl
      have e9 : (99 : Int32).toInt = 99 := rfl
      rw [Int32.lt_iff_toInt_lt] at *
      omega
    rw [if_neg h0, if_pos (show (0 : Int32) < 99 by decide)]
    by_cases h3 : (99 : Int32) < v
    · rw [if_pos h3]
    · rw [if_neg h3]
      apply Int32.toInt_inj.mp
      rw [Int32.lt_iff_toInt_lt] at *
      omega
theorem kx_kp2 {v : Nat} (hv : v < 2 ^ 31) : kx_max 0 (kx_min 99 (nI v)) = kx_min 99 (nI v) := by
  unfold kx_max kx_min
  by_cases h1 : nI v < 99
  · rw [if_pos h1]
    by_cases h3 : (0 : Int32) < nI v
    · rw [if_pos h3]
    · rw [if_neg h3]
      apply Int32.toInt_inj.mp
      rw [Int32.lt_iff_toInt_lt, nI_toInt hv] at h3
      rw [nI_toInt hv]
      have : (0 : Int32).toInt = 0 := rfl
      omega
  · rw [if_neg h1, if_pos (show (0 : Int32) < 99 by decide)]
section MM
variable {d n sl k p hc : Nat} {es : ax_H} {kd pm ht hs : Nat → Int32} {F1 F2 : Int32 → Int32 → Int32 → Int32 → Int32} {st : Nat → Int32} {b T C : Nat} {sh pl dn : Nat → Int32} {Q : Option Value → ax_H → Prop}
theorem mO_rcv (hal : ax_al n = 178) (h : mO es) (As : List Value) : ax_rcv n es 11 (.ref 159 :: As) := by
  obtain ⟨th, tp, sz, at0, fl, cd, nm, rm, on, fh, un, g, h0⟩ := h
  exact ax_rcv_ok (by omega) h0
theorem mk_kept (v : Int32) (hQ : Q (some (.int (kx_max 0 (kx_min 99 v)))) es) : ax_Mt d 1458 [.int v] n sl es Q := by
  rw [← kx_kp] at hQ
  refine ax_Mt_go (m := ax_m_11_50) (ls := [some (.int v)]) rfl ax_b_1458_0 (Nat.le_of_ble_eq_true rfl) rfl ?_
  simp only [ax_W_cons, ax_I, ax_cmp, ax_ii, ax_ll, ax_li, ax_st1, ax_st2, ax_kl, ax_k2, ax_fit, ax_rtok, List.getElem?_cons_zero, List.getElem?_cons_succ, List.length_cons, List.length_nil, List.set_cons_zero, List.set_cons_succ, Nat.reduceAdd, Nat.reduceDiv, Nat.reduceMod, Nat.reduceMul, Nat.reduceLT, Nat.reduceLeDiff, Int32.reduceOfInt, Int64.reduceOfInt, true_and, and_true, and_self, true_or, or_true, false_implies, true_implies, not_false_eq_true, not_true_eq_false, Value.category, Nat.reduceEqDiff, Option.toList, List.cons_append, List.nil_append, List.drop_succ_cons, List.drop_zero, ax_qq_eq, ax_t_1458, ax_j_1458_8, ax_n_1458_8, ax_j_1458_19, ax_n_1458_19, ax_j_1458_20, ax_n_1458_20]
  refine ⟨fun h => ⟨fun h2 => ?_, fun h2 => ?_⟩, fun h => ?_⟩
  · rw [if_neg (by rw [kx_nlt]; exact h), if_neg (by rw [kx_nlt]; exact h2)] at hQ
    exact hQ
  · rw [kx_nle] at h2
    rw [if_neg (by rw [kx_nlt]; exact h), if_pos h2] at hQ
    exact hQ
  · rw [kx_nle] at h
    rw [if_pos h] at hQ
    exact hQ
theorem mk_cells (hal : ax_al n = 178) (hK : mK es k p hc kd pm ht hs F1 F2) (hQ : Q (some (.int (nI k))) es) : ax_Mt d 1450 [.ref 159] n sl es Q := by
  obtain ⟨⟨th, tp, sz, at0, fl, cd, nm, rm, on, fh, un, g, h0⟩, ct, op, ar, h1, h2, h3, ⟨c0, c1, c2, c3, c4⟩, h4⟩ := hK
  have v0 : vp_in 0 80 := nI_in (c := 0) (by decide) (by decide)
  refine ax_Mt_go (m := ax_m_11_42) (ls := [some (.ref 159)]) rfl ax_b_1450_0 (Nat.le_of_ble_eq_true rfl) rfl ?_
  simp only [ax_W_cons, ax_I, ax_cmp, ax_ii, ax_ll, ax_li, ax_st1, ax_st2, ax_kl, ax_k2, ax_fit, ax_rtok, List.getElem?_cons_zero, List.getElem?_cons_succ, List.length_cons, List.length_nil, List.set_cons_zero, List.set_cons_succ, Nat.reduceAdd, Nat.reduceDiv, Nat.reduceMod, Nat.reduceMul, Nat.reduceLT, Nat.reduceLeDiff, Int32.reduceOfInt, Int64.reduceOfInt, true_and, and_true, and_self, true_or, or_true, false_implies, true_implies, not_false_eq_true, not_true_eq_false, Value.category, Nat.reduceEqDiff, Option.toList, List.cons_append, List.nil_append, List.drop_succ_cons, List.drop_zero, ax_qq_eq, ax_t_1450, h0, h1, mo_f, hal, v0, kx_n0, c0]
  exact hQ
theorem mk_courtiers (hal : ax_al n = 178) (hK : mK es k p hc kd pm ht hs F1 F2) (hQ : Q (some (.int (nI p))) es) : ax_Mt d 1451 [.ref 159] n sl es Q := by
  obtain ⟨⟨th, tp, sz, at0, fl, cd, nm, rm, on, fh, un, g, h0⟩, ct, op, ar, h1, h2, h3, ⟨c0, c1, c2, c3, c4⟩, h4⟩ := hK
  have v0 : vp_in 1 80 := nI_in (c := 1) (by decide) (by decide)
  refine ax_Mt_go (m := ax_m_11_43) (ls := [some (.ref 159)]) rfl ax_b_1451_0 (Nat.le_of_ble_eq_true rfl) rfl ?_
  simp only [ax_W_cons, ax_I, ax_cmp, ax_ii, ax_ll, ax_li, ax_st1, ax_st2, ax_kl, ax_k2, ax_fit, ax_rtok, List.getElem?_cons_zero, List.getElem?_cons_succ, List.length_cons, List.length_nil, List.set_cons_zero, List.set_cons_succ, Nat.reduceAdd, Nat.reduceDiv, Nat.reduceMod, Nat.reduceMul, Nat.reduceLT, Nat.reduceLeDiff, Int32.reduceOfInt, Int64.reduceOfInt, true_and, and_true, and_self, true_or, or_true, false_implies, true_implies, not_false_eq_true, not_true_eq_false, Value.category, Nat.reduceEqDiff, Option.toList, List.cons_append, List.nil_append, List.drop_succ_cons, List.drop_zero, ax_qq_eq, ax_t_1451, h0, h1, mo_f, hal, v0, kx_m1, c1]
  exact hQ
theorem mk_courtierOf (hal : ax_al n = 178) (hK : mK es k p hc kd pm ht hs F1 F2) (hp : p ≤ 6) {i w : Nat} (hi : i < p) (hw : w < 3) (hQ : Q (some (.int (if w = 0 then kd i - 13 else if w = 1 then pm i else ht i))) es) : ax_Mt d 1452 [.ref 159, .int (nI i), .int (nI w)] n sl es Q := by
  obtain ⟨⟨th, tp, sz, at0, fl, cd, nm, rm, on, fh, un, g, h0⟩, ct, op, ar, h1, h2, h3, ⟨c0, c1, c2, c3, c4⟩, h4⟩ := hK
  have e1 : (5 : Int32) + 3 * nI i + nI w = nI (5 + 3 * i + w) := by
    show nI 5 + nI 3 * nI i + nI w = _
    rw [kn_mul, kn_add, kn_add]
  have v0 : vp_in (nI (5 + 3 * i + w)) 80 := nI_in (by omega) (by decide)
  have e2 : (nI (5 + 3 * i + w)).toNatClampNeg = 5 + 3 * i + w := nI_clamp (by omega)
  obtain ⟨q1, q2, q3⟩ := c3 i hi
  refine ax_Mt_go (m := ax_m_11_44) (ls := [some (.ref 159), some (.int (nI i)), some (.int (nI w))]) rfl ax_b_1452_0 (Nat.le_of_ble_eq_true rfl) rfl ?_
  simp only [ax_W_cons, ax_I, ax_cmp, ax_ii, ax_ll, ax_li, ax_st1, ax_st2, ax_kl, ax_k2, ax_fit, ax_rtok, List.getElem?_cons_zero, List.getElem?_cons_succ, List.length_cons, List.length_nil, List.set_cons_zero, List.set_cons_succ, Nat.reduceAdd, Nat.reduceDiv, Nat.reduceMod, Nat.reduceMul, Nat.reduceLT, Nat.reduceLeDiff, Int32.reduceOfInt, Int64.reduceOfInt, true_and, and_true, and_self, true_or, or_true, false_implies, true_implies, not_false_eq_true, not_true_eq_false, Value.category, Nat.reduceEqDiff, Option.toList, List.cons_append, List.nil_append, List.drop_succ_cons, List.drop_zero, ax_qq_eq, ax_t_1452, h0, h1, mo_f, hal, e1, v0, e2]
  have h5 : w = 0 ∨ w = 1 ∨ w = 2 := by omega
  rcases h5 with rfl | rfl | rfl
  · rw [q1.symm] at hQ
    exact hQ
  · have hQ : Q (some (.int (pm i))) es := hQ
    rw [q2]
    exact hQ
  · have hQ : Q (some (.int (ht i))) es := hQ
    rw [q3]
    exact hQ
theorem mx_cell {k : Nat} (hk : k < 2 ^ 31) (c : Int32) : kx_cell k c = (decide (¬ c < 0) && decide (¬ nI k ≤ c)) := by
  unfold kx_cell kx_in
  by_cases h : (0 : Int32) ≤ c
  · have h1 : ¬ c < 0 := by rw [kx_nlt]; exact h
    have e : (c ≤ nI k - 1) = (¬ nI k ≤ c) := by
      apply propext
      rw [Int32.le_iff_toInt_le] at *
      have e0 : (0 : Int32).toInt = 0 := rfl
      cases k with
      | zero =>
        have e1 : (nI 0 - 1).toInt = -1 := by decide
        have e2 : (nI 0).toInt = 0 := by decide
        rw [Int32.le_iff_toInt_le]
        omega
      | succ k =>
        rw [nI_pred, Int32.le_iff_toInt_le, nI_toInt (by omega), nI_toInt (by omega)]
        omega
    simp [h, h1, e]
  · have h1 : c < 0 := by rw [kx_nle] at h; exact h
    simp [h, h1]
theorem mk_isCell (hal : ax_al n = 178) (hk : k ≤ 12) (hK : mK es k p hc kd pm ht hs F1 F2) (c : Int32) (hQ : Q (some (.int (kx_b (kx_cell k c)))) es) : ax_Mt (d + 1) 1453 [.ref 159, .int c] n sl es Q := by
  rw [mx_cell (by omega)] at hQ
  refine ax_Mt_go (m := ax_m_11_45) (ls := [some (.ref 159), some (.int c)]) rfl ax_b_1453_0 (Nat.le_of_ble_eq_true rfl) rfl ?_
  simp only [ax_W_cons, ax_I, ax_cmp, ax_ii, ax_ll, ax_li, ax_st1, ax_st2, ax_kl, ax_k2, ax_fit, ax_rtok, List.getElem?_cons_zero, List.getElem?_cons_succ, List.length_cons, List.length_nil, List.set_cons_zero, List.set_cons_succ, Nat.reduceAdd, Nat.reduceDiv, Nat.reduceMod, Nat.reduceMul, Nat.reduceLT, Nat.reduceLeDiff, Int32.reduceOfInt, Int64.reduceOfInt, true_and, and_true, and_self, true_or, or_true, false_implies, true_implies, not_false_eq_true, not_true_eq_false, Value.category, Nat.reduceEqDiff, Option.toList, List.cons_append, List.nil_append, List.drop_succ_cons, List.drop_zero, ax_qq_eq, ax_t_1453, ax_j_1453_16, ax_n_1453_16, ax_j_1453_17, ax_n_1453_17]
  refine ⟨fun h => ?_, fun h => ?_⟩
  · simp only [h, not_true, decide_false, Bool.false_and] at hQ
    exact hQ
  · refine ax_inv_of (Nat.le_of_ble_eq_true rfl) (Nat.le_of_ble_eq_true rfl) (fun _ => mO_rcv hal hK.1 _) (fun h => absurd h (by decide)) (Nat.le_refl _) (Nat.le_refl _) (mk_cells hal hK ?_)
    simp only [ax_W_cons, ax_I, ax_cmp, ax_ii, ax_ll, ax_li, ax_st1, ax_st2, ax_kl, ax_k2, ax_fit, ax_rtok, List.getElem?_cons_zero, List.getElem?_cons_succ, List.length_cons, List.length_nil, List.set_cons_zero, List.set_cons_succ, Nat.reduceAdd, Nat.reduceDiv, Nat.reduceMod, Nat.reduceMul, Nat.reduceLT, Nat.reduceLeDiff, Int32.reduceOfInt, Int64.reduceOfInt, true_and, and_true, and_self, true_or, or_true, false_implies, true_implies, not_false_eq_true, not_true_eq_false, Value.category, Nat.reduceEqDiff, Option.toList, List.cons_append, List.nil_append, List.drop_succ_cons, List.drop_zero, ax_qq_eq, ax_t_1453, ax_j_1453_16, ax_n_1453_16, ax_j_1453_17, ax_n_1453_17]
    refine ⟨fun h2 => ?_, fun h2 => ?_⟩
    · simp only [h2, not_true, decide_false, Bool.and_false] at hQ
      exact hQ
    · simp only [h, h2, not_false_eq_true, decide_true, Bool.and_self] at hQ
      exact hQ
theorem mk_isCourtier (hal : ax_al n = 178) (hp : p ≤ 6) (hK : mK es k p hc kd pm ht hs F1 F2) (c : Int32) (hQ : Q (some (.int (kx_b (kx_cell p c)))) es) : ax_Mt (d + 1) 1454 [.ref 159, .int c] n sl es Q := by
  rw [mx_cell (by omega)] at hQ
  refine ax_Mt_go (m := ax_m_11_46) (ls := [some (.ref 159), some (.int c)]) rfl ax_b_1454_0 (Nat.le_of_ble_eq_true rfl) rfl ?_
  simp only [ax_W_cons, ax_I, ax_cmp, ax_ii, ax_ll, ax_li, ax_st1, ax_st2, ax_kl, ax_k2, ax_fit, ax_rtok, List.getElem?_cons_zero, List.getElem?_cons_succ, List.length_cons, List.length_nil, List.set_cons_zero, List.set_cons_succ, Nat.reduceAdd, Nat.reduceDiv, Nat.reduceMod, Nat.reduceMul, Nat.reduceLT, Nat.reduceLeDiff, Int32.reduceOfInt, Int64.reduceOfInt, true_and, and_true, and_self, true_or, or_true, false_implies, true_implies, not_false_eq_true, not_true_eq_false, Value.category, Nat.reduceEqDiff, Option.toList, List.cons_append, List.nil_append, List.drop_succ_cons, List.drop_zero, ax_qq_eq, ax_t_1454, ax_j_1454_16, ax_n_1454_16, ax_j_1454_17, ax_n_1454_17]
  refine ⟨fun h => ?_, fun h => ?_⟩
  · simp only [h, not_true, decide_false, Bool.false_and] at hQ
    exact hQ
  · refine ax_inv_of (Nat.le_of_ble_eq_true rfl) (Nat.le_of_ble_eq_true rfl) (fun _ => mO_rcv hal hK.1 _) (fun h => absurd h (by decide)) (Nat.le_refl _) (Nat.le_refl _) (mk_courtiers hal hK ?_)
    simp only [ax_W_cons, ax_I, ax_cmp, ax_ii, ax_ll, ax_li, ax_st1, ax_st2, ax_kl, ax_k2, ax_fit, ax_rtok, List.getElem?_cons_zero, List.getElem?_cons_succ, List.length_cons, List.length_nil, List.set_cons_zero, List.set_cons_succ, Nat.reduceAdd, Nat.reduceDiv, Nat.reduceMod, Nat.reduceMul, Nat.reduceLT, Nat.reduceLeDiff, Int32.reduceOfInt, Int64.reduceOfInt, true_and, and_true, and_self, true_or, or_true, false_implies, true_implies, not_false_eq_true, not_true_eq_false, Value.category, Nat.reduceEqDiff, Option.toList, List.cons_append, List.nil_append, List.drop_succ_cons, List.drop_zero, ax_qq_eq, ax_t_1454, ax_j_1454_16, ax_n_1454_16, ax_j_1454_17, ax_n_1454_17]
    refine ⟨fun h2 => ?_, fun h2 => ?_⟩
    · simp only [h2, not_true, decide_false, Bool.and_false] at hQ
      exact hQ
    · simp only [h, h2, not_false_eq_true, decide_true, Bool.and_self] at hQ
      exact hQ
theorem mk_isCracked (hal : ax_al n = 178) (hO : mO es) (hX : mX es st) (hb : b + 52 ≤ 1196) (hV : st (b + 1) = nI C) (hC : C < 2 ^ 12) {c : Nat} (hc : c < 31) (hQ : Q (some (.int (kx_b (C.testBit c)))) es) : ax_Mt d 1455 [.ref 159, .int (nI b), .int (nI c)] n sl es Q := by
  obtain ⟨th, tp, sz, at0, fl, cd, nm, rm, on, fh, un, g, h0⟩ := hO
  obtain ⟨h1, h2⟩ := hX
  have e1 : nI b + 1 = nI (b + 1) := (nI_succ b).symm
  have v0 : vp_in (nI (b + 1)) 1196 := nI_in (by omega) (by decide)
  have e2 : (nI (b + 1)).toNatClampNeg = b + 1 := nI_clamp (by omega)
  have e3 := kc_bit (C := C) (i := c) (by omega) hc
  refine ax_Mt_go (m := ax_m_11_47) (ls := [some (.ref 159), some (.int (nI b)), some (.int (nI c))]) rfl ax_b_1455_0 (Nat.le_of_ble_eq_true rfl) rfl ?_
  simp only [ax_W_cons, ax_I, ax_cmp, ax_ii, ax_ll, ax_li, ax_st1, ax_st2, ax_kl, ax_k2, ax_fit, ax_rtok, List.getElem?_cons_zero, List.getElem?_cons_succ, List.length_cons, List.length_nil, List.set_cons_zero, List.set_cons_succ, Nat.reduceAdd, Nat.reduceDiv, Nat.reduceMod, Nat.reduceMul, Nat.reduceLT, Nat.reduceLeDiff, Int32.reduceOfInt, Int64.reduceOfInt, true_and, and_true, and_self, true_or, or_true, false_implies, true_implies, not_false_eq_true, not_true_eq_false, Value.category, Nat.reduceEqDiff, Option.toList, List.cons_append, List.nil_append, List.drop_succ_cons, List.drop_zero, ax_qq_eq, ax_t_1455, ax_j_1455_20, ax_n_1455_20, ax_j_1455_21, ax_n_1455_21, h0, h1, mo_f, hal, e1, v0, e2, hV, e3]
  revert hQ
  cases C.testBit c <;> intro hQ
  · exact ⟨fun _ => hQ, fun h => absurd (show ¬ nI (Bool.toNat false) = 1 by decide) h⟩
  · exact ⟨fun h => absurd (show nI (Bool.toNat true) = 1 by decide) h, fun _ => hQ⟩
theorem mk_isWhole (hal : ax_al n = 178) (hk : k ≤ 12) (hK : mK es k p hc kd pm ht hs F1 F2) (hX : mX es st) (hb : b + 52 ≤ 1196) (hV : st (b + 1) = nI C) (hC : C < 2 ^ 12) (c : Int32) (hQ : Q (some (.int (kx_b (kx_op k (nI C) c)))) es) : ax_Mt (d + 2) 1456 [.ref 159, .int (nI b), .int c] n sl es Q := by
  unfold kx_op at hQ
  refine ax_Mt_go (m := ax_m_11_48) (ls := [some (.ref 159), some (.int (nI b)), some (.int c)]) rfl ax_b_1456_0 (Nat.le_of_ble_eq_true rfl) rfl ?_
  simp only [ax_W_cons, ax_I, ax_cmp, ax_ii, ax_ll, ax_li, ax_st1, ax_st2, ax_kl, ax_k2, ax_fit, ax_rtok, List.getElem?_cons_zero, List.getElem?_cons_succ, List.length_cons, List.length_nil, List.set_cons_zero, List.set_cons_succ, Nat.reduceAdd, Nat.reduceDiv, Nat.reduceMod, Nat.reduceMul, Nat.reduceLT, Nat.reduceLeDiff, Int32.reduceOfInt, Int64.reduceOfInt, true_and, and_true, and_self, true_or, or_true, false_implies, true_implies, not_false_eq_true, not_true_eq_false, Value.category, Nat.reduceEqDiff, Option.toList, List.cons_append, List.nil_append, List.drop_succ_cons, List.drop_zero, ax_qq_eq, ax_t_1456]
  refine ax_inv_of (Nat.le_of_ble_eq_true rfl) (Nat.le_of_ble_eq_true rfl) (fun _ => mO_rcv hal hK.1 _) (fun h => absurd h (by decide)) (Nat.le_refl _) (Nat.le_refl _) (mk_isCell hal hk hK c ?_)
  simp only [ax_W_cons, ax_I, ax_cmp, ax_ii, ax_ll, ax_li, ax_st1, ax_st2, ax_kl, ax_k2, ax_fit, ax_rtok, List.getElem?_cons_zero, List.getElem?_cons_succ, List.length_cons, List.length_nil, List.set_cons_zero, List.set_cons_succ, Nat.reduceAdd, Nat.reduceDiv, Nat.reduceMod, Nat.reduceMul, Nat.reduceLT, Nat.reduceLeDiff, Int32.reduceOfInt, Int64.reduceOfInt, true_and, and_true, and_self, true_or, or_true, false_implies, true_implies, not_false_eq_true, not_true_eq_false, Value.category, Nat.reduceEqDiff, Option.toList, List.cons_append, List.nil_append, List.drop_succ_cons, List.drop_zero, ax_qq_eq, ax_t_1456, ax_j_1456_21, ax_n_1456_21, ax_j_1456_22, ax_n_1456_22, kx_b0]
  refine ⟨fun h => ?_, fun h => ?_⟩
  · rw [h] at hQ
    exact hQ
  · have h : kx_cell k c = true := by simpa using h
    obtain ⟨c', hc', rfl⟩ := kx_cell_in (by omega) h
    rw [h, kc_ck (by omega)] at hQ
    refine ax_inv_of (Nat.le_of_ble_eq_true rfl) (Nat.le_of_ble_eq_true rfl) (fun _ => mO_rcv hal hK.1 _) (fun h => absurd h (by decide)) (Nat.le_refl _) (Nat.le_refl _) (mk_isCracked hal hK.1 hX hb hV hC (c := c') (by omega) ?_)
    simp only [ax_W_cons, ax_I, ax_cmp, ax_ii, ax_ll, ax_li, ax_st1, ax_st2, ax_kl, ax_k2, ax_fit, ax_rtok, List.getElem?_cons_zero, List.getElem?_cons_succ, List.length_cons, List.length_nil, List.set_cons_zero, List.set_cons_succ, Nat.reduceAdd, Nat.reduceDiv, Nat.reduceMod, Nat.reduceMul, Nat.reduceLT, Nat.reduceLeDiff, Int32.reduceOfInt, Int64.reduceOfInt, true_and, and_true, and_self, true_or, or_true, false_implies, true_implies, not_false_eq_true, not_true_eq_false, Value.category, Nat.reduceEqDiff, Option.toList, List.cons_append, List.nil_append, List.drop_succ_cons, List.drop_zero, ax_qq_eq, ax_t_1456, ax_j_1456_21, ax_n_1456_21, ax_j_1456_22, ax_n_1456_22, kx_b0]
    cases hB : C.testBit c'
    · rw [hB] at hQ
      exact ⟨fun z => absurd rfl z, fun _ => hQ⟩
    · rw [hB] at hQ
      exact ⟨fun _ => hQ, fun z => absurd (by decide) z⟩
theorem mk_heatOf (hal : ax_al n = 178) (hK : mK es k p hc kd pm ht hs F1 F2) (hX : mX es st) (hb : b + 52 ≤ 1196) (hhc : 0 < hc ∧ hc ≤ 12) (hV : st b = nI T) (hT : T < 2 ^ 31) (hQ : Q (some (.int (hs (T % hc)))) es) : ax_Mt d 1457 [.ref 159, .int (nI b)] n sl es Q := by
  obtain ⟨⟨th, tp, sz, at0, fl, cd, nm, rm, on, fh, un, g, h0⟩, ct, op, ar, h1, h2, h3, ⟨c0, c1, c2, c3, c4⟩, h4⟩ := hK
  obtain ⟨x1, x2⟩ := hX
  have e1 : nI b + 0 = nI b := by rw [← nI_0, kn_add]; rfl
  have v0 : vp_in (nI b) 1196 := nI_in (by omega) (by decide)
  have e2 : (nI b).toNatClampNeg = b := nI_clamp (by omega)
  have v2 : vp_in 2 80 := nI_in (c := 2) (by decide) (by decide)
  have e3 : ¬ nI hc = 0 := nI_ne0 hhc.1 (by omega)
  have e4 := pk_rem hT hhc.1 (by omega)
  have hlt := Nat.mod_lt T hhc.1
  have e5 : (23 : Int32) + nI (T % hc) = nI (23 + T % hc) := kn_add 23 _
  have v5 : vp_in (nI (23 + T % hc)) 80 := nI_in (by omega) (by decide)
  have e6 : (nI (23 + T % hc)).toNatClampNeg = 23 + T % hc := nI_clamp (by omega)
  have e7 := c4 (T % hc) hlt
  refine ax_Mt_go (m := ax_m_11_49) (ls := [some (.ref 159), some (.int (nI b))]) rfl ax_b_1457_0 (Nat.le_of_ble_eq_true rfl) rfl ?_
  simp only [ax_W_cons, ax_I, ax_cmp, ax_ii, ax_ll, ax_li, ax_st1, ax_st2, ax_kl, ax_k2, ax_fit, ax_rtok, List.getElem?_cons_zero, List.getElem?_cons_succ, List.length_cons, List.length_nil, List.set_cons_zero, List.set_cons_succ, Nat.reduceAdd, Nat.reduceDiv, Nat.reduceMod, Nat.reduceMul, Nat.reduceLT, Nat.reduceLeDiff, Int32.reduceOfInt, Int64.reduceOfInt, true_and, and_true, and_self, true_or, or_true, false_implies, true_implies, not_false_eq_true, not_true_eq_false, Value.category, Nat.reduceEqDiff, Option.toList, List.cons_append, List.nil_append, List.drop_succ_cons, List.drop_zero, ax_qq_eq, ax_t_1457, h0, h1, x1, mo_f, hal, e1, v0, e2, v2, kx_m2, hV, c2, e3, e4, e5, v5, e6, e7]
  exact hQ
end MM
