/-! the lines of a court: how they are read -/
theorem zv10_lt (t : zTp) (p : Nat) : ∀ m, (∀ j, j < m → zD (t.2 (p + j)) = true) → zv10 t p m < 10 ^ m
  | 0, _ => by
    rw [zv10]
    decide
  | m + 1, h => by
    have ih := zv10_lt t p m (fun j hj => h j (by omega))
    have h1 := h m (by omega)
    unfold zD at h1
    rw [decide_eq_true_eq] at h1
    rw [zv10, Nat.pow_succ]
    omega
theorem znb_lt {t : zTp} {a : Nat} (h : zkd t a = 25) : znb t a < 10000 := by
  unfold zkd zkind at h
  by_cases e : t.1 ≤ zpl t a
  · rw [if_pos e] at h
    omega
  · rw [if_neg e] at h
    by_cases h1 : zL (t.2 (zpl t a)) = true
    · rw [if_pos h1] at h
      exfalso
      split at h
      · omega
      · have := zwn_le (zwr t (zpl t a) (zend t zL (zpl t a) - zpl t a))
        omega
    · rw [if_neg h1] at h
      by_cases h2 : zD (t.2 (zpl t a)) = true
      · rw [if_pos h2] at h
        have h4 : zend t zD (zpl t a) - zpl t a ≤ 4 := by
          by_cases h3 : 4 < zend t zD (zpl t a) - zpl t a
          · rw [if_pos h3] at h
            omega
          · omega
        unfold znb
        have h5 := zv10_lt t (zpl t a) (zend t zD (zpl t a) - zpl t a) (fun j hj => zrun_in t zD (t.1 - zpl t a) (zpl t a) (zpl t a + j) (by omega) (by unfold zend at hj; omega))
        have h6 : 10 ^ (zend t zD (zpl t a) - zpl t a) ≤ 10 ^ 4 := Nat.pow_le_pow_right (by decide) h4
        omega
      · rw [if_neg h2] at h
        exfalso
        split at h
        · next h5 =>
          unfold zSn at h5
          simp at h5
          omega
        · omega
/-- what is told once: cells, heat, fades, reads -/
abbrev zO : Type := Bool × Bool × Bool × Bool
def zon (o : zO) (k : Nat) : Bool := if k = 0 then o.1 else if k = 4 then o.2.1 else if k = 5 then o.2.2.1 else o.2.2.2
def zos (o : zO) (k : Nat) : zO := if k = 0 then (true, o.2) else if k = 4 then (o.1, true, o.2.2) else if k = 5 then (o.1, o.2.1, true, o.2.2.2) else (o.1, o.2.1, o.2.2.1, true)
def zoI (o : zO) : Int32 := nI ((if o.1 then 1 else 0) + (if o.2.1 then 16 else 0) + (if o.2.2.1 then 32 else 0) + (if o.2.2.2 then 64 else 0))
def zok (k : Nat) : Prop := k = 0 ∨ k = 4 ∨ k = 5 ∨ k = 6
theorem zoI_on (o : zO) {k : Nat} (hk : zok k) : (zoI o &&& (1 : Int32) <<< (nI k &&& 31) = 0) = (zon o k = false) := by
  obtain ⟨a, b, c, d⟩ := o
  rcases hk with h | h | h | h <;> subst h <;> cases a <;> cases b <;> cases c <;> cases d <;> exact propext (by decide)
theorem zoI_os (o : zO) {k : Nat} (hk : zok k) : zoI o ||| (1 : Int32) <<< (nI k &&& 31) = zoI (zos o k) := by
  obtain ⟨a, b, c, d⟩ := o
  rcases hk with h | h | h | h <;> subst h <;> cases a <;> cases b <;> cases c <;> cases d <;> decide
/-- a courtier: kind, place, heart, name -/
abbrev zCr : Type := Nat × Nat × Nat × List Nat
/-- cells, courtiers, heats, told once, fades, reads -/
abbrev zDf : Type := Nat × List zCr × List Nat × zO × List Int32 × List Int32
def zD0 : zDf := (8, [], [2], (false, false, false, false), [], [])
abbrev zName (t : zTp) (a : Nat) : Prop := zkd t a = 24 ∨ (20 ≤ zkd t a ∧ zkd t a ≤ 23)
abbrev zNo (t : zTp) (a lo hi : Nat) : Prop := lo ≤ znb t a ∧ znb t a ≤ hi
abbrev zS : Type := (Nat × Nat) ⊕ (Nat × zDf)
/-- a number that stands for itself, then more -/
def zNum (t : zTp) (a lo hi : Nat) (g : zS) : zS := if zkd t a = 25 then (if zNo t a lo hi then g else .inl (4, a)) else .inl (1, a)
def zSgn (t : zTp) (a k : Nat) (g : zS) : zS := if zkd t a = k then g else .inl (1, a)
def zFnd (cs : List zCr) (w : List Nat) : Nat → Option Nat
  | i => match cs with
    | [] => none
    | c :: cs => if c.2.2.2 = w then some i else zFnd cs w (i + 1)
def zL0 (t : zTp) (d : zDf) (a : Nat) : zS := if zon d.2.2.2.1 0 = true then .inl (3, a) else
  zNum t (a + 1) 3 12 (zSgn t (a + 2) 59 (.inr (a + 3, (znb t (a + 1), d.2.1, d.2.2.1, zos d.2.2.2.1 0, d.2.2.2.2))))
def zL1 (t : zTp) (d : zDf) (a : Nat) : zS := if 6 ≤ d.2.1.length then .inl (5, a) else
  if zName t (a + 1) then (if zFnd d.2.1 (zwd t (a + 1)) 0 = none then
    (if 13 ≤ zkd t (a + 2) ∧ zkd t (a + 2) ≤ 16 then zSgn t (a + 3) 2 (zNum t (a + 4) 0 11 (zSgn t (a + 5) 3 (zNum t (a + 6) 0 9 (zSgn t (a + 7) 59
      (.inr (a + 8, (d.1, d.2.1 ++ [(zkd t (a + 2), znb t (a + 4), znb t (a + 6), zwd t (a + 1))], d.2.2))))))) else .inl (1, a + 2))
    else .inl (3, a + 1)) else .inl (1, a + 1)
/-- heats: f of them may still come -/
def zHl (t : zTp) (d : zDf) : Nat → Nat → List Nat → zS
  | 0, a, h => if zkd t a = 25 then .inl (if znb t a ≤ 5 then 5 else 4, a) else zSgn t a 59 (.inr (a + 1, (d.1, d.2.1, h, d.2.2.2)))
  | f + 1, a, h => if h = [] ∨ zkd t a = 25 then zNum t a 0 5 (zHl t d f (a + 1) (h ++ [znb t a])) else zSgn t a 59 (.inr (a + 1, (d.1, d.2.1, h, d.2.2.2)))
def zL4 (t : zTp) (d : zDf) (a : Nat) : zS := if zon d.2.2.2.1 4 = true then .inl (3, a) else zHl t (d.1, d.2.1, d.2.2.1, zos d.2.2.2.1 4, d.2.2.2.2) 12 (a + 1) []
def zL5 (t : zTp) (d : zDf) (a : Nat) : zS := if zon d.2.2.2.1 5 = true then .inl (3, a) else match zLv t (zP t false 5) 4 (a + 1) with
  | .inl x => .inl x
  | .inr r => zSgn t r.1 59 (.inr (r.1 + 1, (d.1, d.2.1, d.2.2.1, zos d.2.2.2.1 5, r.2, d.2.2.2.2.2)))
def zL6 (t : zTp) (d : zDf) (a : Nat) : zS := if zon d.2.2.2.1 6 = true then .inl (3, a) else match zLv t (zP t true 5) 4 (a + 1) with
  | .inl x => .inl x
  | .inr r => zSgn t r.1 59 (.inr (r.1 + 1, (d.1, d.2.1, d.2.2.1, zos d.2.2.2.1 6, d.2.2.2.2.1, r.2)))
def zLine (t : zTp) (d : zDf) (a : Nat) : zS := if zkd t a = 0 then zL0 t d a else if zkd t a = 1 then zL1 t d a else if zkd t a = 4 then zL4 t d a else if zkd t a = 5 then zL5 t d a else if zkd t a = 6 then zL6 t d a else .inl (1, a)
def zLines (t : zTp) : Nat → Nat → zDf → (Nat × Nat) ⊕ zDf
  | 0, _, d => .inr d
  | f + 1, a, d => if zkd t a = 26 then .inr d else match zLine t d a with
    | .inl x => .inl x
    | .inr r => zLines t f r.1 r.2
/-- what is not told is as always -/
def zSet (d : zDf) : zDf := (d.1, d.2.1.map (fun c => (c.1, min c.2.1 (d.1 - 1), c.2.2)), d.2.2.1, d.2.2.2.1, if d.2.2.2.1.2.2.1 = true then d.2.2.2.2.1 else [1], if d.2.2.2.1.2.2.2 = true then d.2.2.2.2.2 else [zneg 20])
def zCourt (t : zTp) : (Nat × Nat) ⊕ zDf := match zLines t 1001 0 zD0 with
  | .inl x => .inl x
  | .inr d => .inr (zSet d)
section TT
variable {d n sl : Nat} {es : ax_H} {t : zTp} {Q : Option Value → ax_H → Prop}
theorem kx_in_n {v a b : Nat} (hv : v < 2 ^ 31) (ha : a < 2 ^ 31) (hb : b < 2 ^ 31) : kx_in (nI v) (nI a) (nI b) = decide (a ≤ v ∧ v ≤ b) := by
  unfold kx_in
  by_cases h : a ≤ v ∧ v ≤ b
  · rw [decide_eq_true h, decide_eq_true (nI_le h.1 hv), decide_eq_true (nI_le h.2 hb)]
    rfl
  · rw [decide_eq_false h]
    by_cases h1 : a ≤ v
    · rw [decide_eq_false (p := nI v ≤ nI b) (nI_ge (by omega) hv), Bool.and_false]
    · rw [decide_eq_false (p := nI a ≤ nI v) (nI_ge (by omega) ha), Bool.false_and]
/-- a sign taken, or the fault -/
theorem ck_take (hal : ax_al n = 178) (ht : zT_ok t) {a k : Nat} {tk ft : Int32} (hk : k < 62) (h : xTk es t a tk ft) (h1 : ∀ es', zkd t a = k → xTk es' t (a + 1) tk ft → (∀ j, j ≠ 1 → es' j = es j) → Q (some (.int 1)) es') (h0 : ∀ es', ¬ zkd t a = k → xTf es' t (nI (1 + 16 * zpl t a)) → (∀ j, j ≠ 1 → es' j = es j) → Q (some (.int 0)) es') : ax_Mt (d + 11) 1157 [.ref 1, .int (nI k)] n sl es Q := by
  obtain ⟨⟨nb, nm, w1, -⟩, hS⟩ := id h
  have w1 : es 1 = _ := w1
  have e1 : (nI (zkd t a) = nI k) = (zkd t a = k) := zk_eq (zkd_lt t a) (by omega)
  have n0 : ((0 : Int32) = 0 ∨ (0 : Int32) = 1) := Or.inl rfl
  have n1 : ((1 : Int32) = 0 ∨ (1 : Int32) = 1) := Or.inr rfl
  refine ax_Mt_go (m := ax_m_9_5) (ls := [some (.ref 1), some (.int (nI k))]) rfl ax_b_1157_0 (Nat.le_of_ble_eq_true rfl) rfl ?_
  by_cases hz : zkd t a = k
  · have e1 : nI (zkd t a) = nI k := by rw [e1]; exact hz
    simp only [ax_W_cons, ax_I, ax_cmp, ax_ii, ax_ll, ax_li, ax_st1, ax_st2, ax_kl, ax_k2, ax_fit, ax_rtok, List.getElem?_cons_zero, List.getElem?_cons_succ, List.length_cons, List.length_nil, List.set_cons_zero, List.set_cons_succ, Nat.reduceAdd, Nat.reduceDiv, Nat.reduceMod, Nat.reduceMul, Nat.reduceLT, Nat.reduceLeDiff, Int32.reduceOfInt, Int64.reduceOfInt, true_and, and_true, and_self, true_or, or_true, false_implies, true_implies, not_false_eq_true, not_true_eq_false, Value.category, Nat.reduceEqDiff, Option.toList, List.cons_append, List.nil_append, List.drop_succ_cons, List.drop_zero, ax_qq_eq, ax_t_1157, ax_j_1157_14, ax_n_1157_14, w1, hal, e1]
    refine ax_inv_of (Nat.le_of_ble_eq_true rfl) (Nat.le_of_ble_eq_true rfl) (fun _ => xTk_rcv hal h _) (fun h => absurd h (by decide)) (Nat.le_refl _) (Nat.le_refl _) (ck_adv hal ht h ?_)
    intro es1 T1 f1
    simp only [ax_W_cons, ax_I, ax_cmp, ax_ii, ax_ll, ax_li, ax_st1, ax_st2, ax_kl, ax_k2, ax_fit, ax_rtok, List.getElem?_cons_zero, List.getElem?_cons_succ, List.length_cons, List.length_nil, List.set_cons_zero, List.set_cons_succ, Nat.reduceAdd, Nat.reduceDiv, Nat.reduceMod, Nat.reduceMul, Nat.reduceLT, Nat.reduceLeDiff, Int32.reduceOfInt, Int64.reduceOfInt, true_and, and_true, and_self, true_or, or_true, false_implies, true_implies, not_false_eq_true, not_true_eq_false, Value.category, Nat.reduceEqDiff, Option.toList, List.cons_append, List.nil_append, List.drop_succ_cons, List.drop_zero, ax_qq_eq, ax_t_1157, n1]
    exact h1 es1 hz T1 f1
  · have e1 : ¬ nI (zkd t a) = nI k := by rw [e1]; exact hz
    simp only [ax_W_cons, ax_I, ax_cmp, ax_ii, ax_ll, ax_li, ax_st1, ax_st2, ax_kl, ax_k2, ax_fit, ax_rtok, List.getElem?_cons_zero, List.getElem?_cons_succ, List.length_cons, List.length_nil, List.set_cons_zero, List.set_cons_succ, Nat.reduceAdd, Nat.reduceDiv, Nat.reduceMod, Nat.reduceMul, Nat.reduceLT, Nat.reduceLeDiff, Int32.reduceOfInt, Int64.reduceOfInt, true_and, and_true, and_self, true_or, or_true, false_implies, true_implies, not_false_eq_true, not_true_eq_false, Value.category, Nat.reduceEqDiff, Option.toList, List.cons_append, List.nil_append, List.drop_succ_cons, List.drop_zero, ax_qq_eq, ax_t_1157, ax_j_1157_14, ax_n_1157_14, w1, hal, e1]
    refine ax_inv_of (Nat.le_of_ble_eq_true rfl) (Nat.le_of_ble_eq_true rfl) (fun _ => xTk_rcv hal h _) (fun h => absurd h (by decide)) (Nat.le_refl _) (Nat.le_refl _) (ck_fail (k := 1) hal h ?_)
    intro es1 T1 f1
    simp only [ax_W_cons, ax_I, ax_cmp, ax_ii, ax_ll, ax_li, ax_st1, ax_st2, ax_kl, ax_k2, ax_fit, ax_rtok, List.getElem?_cons_zero, List.getElem?_cons_succ, List.length_cons, List.length_nil, List.set_cons_zero, List.set_cons_succ, Nat.reduceAdd, Nat.reduceDiv, Nat.reduceMod, Nat.reduceMul, Nat.reduceLT, Nat.reduceLeDiff, Int32.reduceOfInt, Int64.reduceOfInt, true_and, and_true, and_self, true_or, or_true, false_implies, true_implies, not_false_eq_true, not_true_eq_false, Value.category, Nat.reduceEqDiff, Option.toList, List.cons_append, List.nil_append, List.drop_succ_cons, List.drop_zero, ax_qq_eq, ax_t_1157, n0]
    exact h0 es1 hz T1 f1
/-- a number taken, or the fault -/
theorem ck_takeNumber (hal : ax_al n = 178) (ht : zT_ok t) {a lo hi : Nat} {tk ft : Int32} (hlo : lo < 2 ^ 31) (hhi : hi < 2 ^ 31) (h : xTk es t a tk ft) (h1 : ∀ es', zkd t a = 25 → zNo t a lo hi → xTk es' t (a + 1) (nI (znb t a)) ft → (∀ j, j ≠ 1 → es' j = es j) → Q (some (.int 1)) es') (h0 : ∀ es' k, (∀ g, zNum t a lo hi g = .inl (k, a)) → xTf es' t (nI (k + 16 * zpl t a)) → (∀ j, j ≠ 1 → es' j = es j) → Q (some (.int 0)) es') : ax_Mt (d + 11) 1158 [.ref 1, .int (nI lo), .int (nI hi)] n sl es Q := by
  obtain ⟨⟨nb, nm, w1, v1, v2⟩, hS⟩ := id h
  have w1 : es 1 = _ := w1
  have c10 : ¬ (1 : Int32) = 0 := by decide
  have e1 : (nI (zkd t a) = 25) = (zkd t a = 25) := zk_eq (x := 25) (zkd_lt t a) (by omega)
  have n0 : ((0 : Int32) = 0 ∨ (0 : Int32) = 1) := Or.inl rfl
  have n1 : ((1 : Int32) = 0 ∨ (1 : Int32) = 1) := Or.inr rfl
  refine ax_Mt_go (m := ax_m_9_6) (ls := [some (.ref 1), some (.int (nI lo)), some (.int (nI hi))]) rfl ax_b_1158_0 (Nat.le_of_ble_eq_true rfl) rfl ?_
  by_cases hz : zkd t a = 25
  · have e1 : nI (zkd t a) = 25 := by rw [e1]; exact hz
    have hnb := v1 hz
    have hlt := znb_lt hz
    simp only [ax_W_cons, ax_I, ax_cmp, ax_ii, ax_ll, ax_li, ax_st1, ax_st2, ax_kl, ax_k2, ax_fit, ax_rtok, List.getElem?_cons_zero, List.getElem?_cons_succ, List.length_cons, List.length_nil, List.set_cons_zero, List.set_cons_succ, Nat.reduceAdd, Nat.reduceDiv, Nat.reduceMod, Nat.reduceMul, Nat.reduceLT, Nat.reduceLeDiff, Int32.reduceOfInt, Int64.reduceOfInt, true_and, and_true, and_self, true_or, or_true, false_implies, true_implies, not_false_eq_true, not_true_eq_false, Value.category, Nat.reduceEqDiff, Option.toList, List.cons_append, List.nil_append, List.drop_succ_cons, List.drop_zero, ax_qq_eq, ax_t_1158, ax_j_1158_15, ax_n_1158_15, w1, hal, e1]
    refine ax_inv_of (Nat.le_of_ble_eq_true rfl) (Nat.le_of_ble_eq_true rfl) (fun _ => absurd ‹_› (by decide)) (fun h => absurd h (by decide)) (Nat.le_refl _) (Nat.le_refl _) (xk_within _ _ _ ?_)
    rw [hnb, kx_in_n (by omega) hlo hhi]
    by_cases hN : zNo t a lo hi
    · have hN' : lo ≤ znb t a ∧ znb t a ≤ hi := hN
      rw [decide_eq_true hN']
      simp only [ax_W_cons, ax_I, ax_cmp, ax_ii, ax_ll, ax_li, ax_st1, ax_st2, ax_kl, ax_k2, ax_fit, ax_rtok, List.getElem?_cons_zero, List.getElem?_cons_succ, List.length_cons, List.length_nil, List.set_cons_zero, List.set_cons_succ, Nat.reduceAdd, Nat.reduceDiv, Nat.reduceMod, Nat.reduceMul, Nat.reduceLT, Nat.reduceLeDiff, Int32.reduceOfInt, Int64.reduceOfInt, true_and, and_true, and_self, true_or, or_true, false_implies, true_implies, not_false_eq_true, not_true_eq_false, Value.category, Nat.reduceEqDiff, Option.toList, List.cons_append, List.nil_append, List.drop_succ_cons, List.drop_zero, ax_qq_eq, ax_t_1158, ax_j_1158_33, ax_n_1158_33, w1, hal, c10, kx_bt, hnb]
      have T0 : xTk (ax_up es 1 (.inr (9, [.ref 2, .int (nI t.1), .int (nI (zkd t a)), .int (nI (znb t a)), .long nm, .int (nI (znb t a)), .int ft, .int (nI (zpl t a)), .int (nI (zpos t (a + 1)))]))) t a (nI (znb t a)) ft := ⟨⟨_, nm, ax_up_same .., fun _ => rfl, v2⟩, xSg_fr hS (ax_up_ne _ _ (by decide))⟩
      refine ax_inv_of (Nat.le_of_ble_eq_true rfl) (Nat.le_of_ble_eq_true rfl) (fun _ => xTk_rcv hal T0 _) (fun h => absurd h (by decide)) (Nat.le_refl _) (Nat.le_refl _) (ck_adv hal ht T0 ?_)
      intro es1 T1 f1
      simp only [ax_W_cons, ax_I, ax_cmp, ax_ii, ax_ll, ax_li, ax_st1, ax_st2, ax_kl, ax_k2, ax_fit, ax_rtok, List.getElem?_cons_zero, List.getElem?_cons_succ, List.length_cons, List.length_nil, List.set_cons_zero, List.set_cons_succ, Nat.reduceAdd, Nat.reduceDiv, Nat.reduceMod, Nat.reduceMul, Nat.reduceLT, Nat.reduceLeDiff, Int32.reduceOfInt, Int64.reduceOfInt, true_and, and_true, and_self, true_or, or_true, false_implies, true_implies, not_false_eq_true, not_true_eq_false, Value.category, Nat.reduceEqDiff, Option.toList, List.cons_append, List.nil_append, List.drop_succ_cons, List.drop_zero, ax_qq_eq, ax_t_1158, n1]
      exact h1 es1 hz hN T1 (fun j hj => (f1 j hj).trans (ax_up_ne _ _ hj))
    · have hN' : ¬ (lo ≤ znb t a ∧ znb t a ≤ hi) := hN
      rw [decide_eq_false hN']
      simp only [ax_W_cons, ax_I, ax_cmp, ax_ii, ax_ll, ax_li, ax_st1, ax_st2, ax_kl, ax_k2, ax_fit, ax_rtok, List.getElem?_cons_zero, List.getElem?_cons_succ, List.length_cons, List.length_nil, List.set_cons_zero, List.set_cons_succ, Nat.reduceAdd, Nat.reduceDiv, Nat.reduceMod, Nat.reduceMul, Nat.reduceLT, Nat.reduceLeDiff, Int32.reduceOfInt, Int64.reduceOfInt, true_and, and_true, and_self, true_or, or_true, false_implies, true_implies, not_false_eq_true, not_true_eq_false, Value.category, Nat.reduceEqDiff, Option.toList, List.cons_append, List.nil_append, List.drop_succ_cons, List.drop_zero, ax_qq_eq, ax_t_1158, ax_j_1158_33, ax_n_1158_33, w1, hal, kx_bf]
      refine ax_inv_of (Nat.le_of_ble_eq_true rfl) (Nat.le_of_ble_eq_true rfl) (fun _ => xTk_rcv hal h _) (fun h => absurd h (by decide)) (Nat.le_refl _) (Nat.le_refl _) (ck_fail (k := 4) hal h ?_)
      intro es1 T1 f1
      simp only [ax_W_cons, ax_I, ax_cmp, ax_ii, ax_ll, ax_li, ax_st1, ax_st2, ax_kl, ax_k2, ax_fit, ax_rtok, List.getElem?_cons_zero, List.getElem?_cons_succ, List.length_cons, List.length_nil, List.set_cons_zero, List.set_cons_succ, Nat.reduceAdd, Nat.reduceDiv, Nat.reduceMod, Nat.reduceMul, Nat.reduceLT, Nat.reduceLeDiff, Int32.reduceOfInt, Int64.reduceOfInt, true_and, and_true, and_self, true_or, or_true, false_implies, true_implies, not_false_eq_true, not_true_eq_false, Value.category, Nat.reduceEqDiff, Option.toList, List.cons_append, List.nil_append, List.drop_succ_cons, List.drop_zero, ax_qq_eq, ax_t_1158, n0]
      exact h0 es1 4 (fun g => by rw [zNum, if_pos hz, if_neg hN]) T1 f1
  · have e1 : ¬ nI (zkd t a) = 25 := by rw [e1]; exact hz
    simp only [ax_W_cons, ax_I, ax_cmp, ax_ii, ax_ll, ax_li, ax_st1, ax_st2, ax_kl, ax_k2, ax_fit, ax_rtok, List.getElem?_cons_zero, List.getElem?_cons_succ, List.length_cons, List.length_nil, List.set_cons_zero, List.set_cons_succ, Nat.reduceAdd, Nat.reduceDiv, Nat.reduceMod, Nat.reduceMul, Nat.reduceLT, Nat.reduceLeDiff, Int32.reduceOfInt, Int64.reduceOfInt, true_and, and_true, and_self, true_or, or_true, false_implies, true_implies, not_false_eq_true, not_true_eq_false, Value.category, Nat.reduceEqDiff, Option.toList, List.cons_append, List.nil_append, List.drop_succ_cons, List.drop_zero, ax_qq_eq, ax_t_1158, ax_j_1158_15, ax_n_1158_15, w1, hal, e1]
    refine ax_inv_of (Nat.le_of_ble_eq_true rfl) (Nat.le_of_ble_eq_true rfl) (fun _ => xTk_rcv hal h _) (fun h => absurd h (by decide)) (Nat.le_refl _) (Nat.le_refl _) (ck_fail (k := 1) hal h ?_)
    intro es1 T1 f1
    simp only [ax_W_cons, ax_I, ax_cmp, ax_ii, ax_ll, ax_li, ax_st1, ax_st2, ax_kl, ax_k2, ax_fit, ax_rtok, List.getElem?_cons_zero, List.getElem?_cons_succ, List.length_cons, List.length_nil, List.set_cons_zero, List.set_cons_succ, Nat.reduceAdd, Nat.reduceDiv, Nat.reduceMod, Nat.reduceMul, Nat.reduceLT, Nat.reduceLeDiff, Int32.reduceOfInt, Int64.reduceOfInt, true_and, and_true, and_self, true_or, or_true, false_implies, true_implies, not_false_eq_true, not_true_eq_false, Value.category, Nat.reduceEqDiff, Option.toList, List.cons_append, List.nil_append, List.drop_succ_cons, List.drop_zero, ax_qq_eq, ax_t_1158, n0]
    exact h0 es1 1 (fun g => by rw [zNum, if_neg hz]) T1 f1
theorem ck_isName (hal : ax_al n = 178) {a : Nat} {tk ft : Int32} (h : xTk es t a tk ft) (hQ : Q (some (.int (kx_b (decide (zName t a))))) es) : ax_Mt (d + 1) 1159 [.ref 1] n sl es Q := by
  obtain ⟨⟨nb, nm, w1, v1, v2⟩, hS⟩ := id h
  have w1 : es 1 = _ := w1
  have c10 : ¬ (1 : Int32) = 0 := by decide
  have hk := zkd_lt t a
  have e1 : (nI (zkd t a) = 24) = (zkd t a = 24) := zk_eq (x := 24) hk (by omega)
  refine ax_Mt_go (m := ax_m_9_7) (ls := [some (.ref 1)]) rfl ax_b_1159_0 (Nat.le_of_ble_eq_true rfl) rfl ?_
  by_cases hz : zkd t a = 24
  · have e1 : nI (zkd t a) = 24 := by rw [e1]; exact hz
    have hn : zName t a := Or.inl hz
    rw [decide_eq_true hn] at hQ
    simp only [ax_W_cons, ax_I, ax_cmp, ax_ii, ax_ll, ax_li, ax_st1, ax_st2, ax_kl, ax_k2, ax_fit, ax_rtok, List.getElem?_cons_zero, List.getElem?_cons_succ, List.length_cons, List.length_nil, List.set_cons_zero, List.set_cons_succ, Nat.reduceAdd, Nat.reduceDiv, Nat.reduceMod, Nat.reduceMul, Nat.reduceLT, Nat.reduceLeDiff, Int32.reduceOfInt, Int64.reduceOfInt, true_and, and_true, and_self, true_or, or_true, false_implies, true_implies, not_false_eq_true, not_true_eq_false, Value.category, Nat.reduceEqDiff, Option.toList, List.cons_append, List.nil_append, List.drop_succ_cons, List.drop_zero, ax_qq_eq, ax_t_1159, ax_j_1159_23, ax_n_1159_23, ax_j_1159_28, ax_n_1159_28, w1, hal, e1]
    exact hQ
  · have e1 : ¬ nI (zkd t a) = 24 := by rw [e1]; exact hz
    simp only [ax_W_cons, ax_I, ax_cmp, ax_ii, ax_ll, ax_li, ax_st1, ax_st2, ax_kl, ax_k2, ax_fit, ax_rtok, List.getElem?_cons_zero, List.getElem?_cons_succ, List.length_cons, List.length_nil, List.set_cons_zero, List.set_cons_succ, Nat.reduceAdd, Nat.reduceDiv, Nat.reduceMod, Nat.reduceMul, Nat.reduceLT, Nat.reduceLeDiff, Int32.reduceOfInt, Int64.reduceOfInt, true_and, and_true, and_self, true_or, or_true, false_implies, true_implies, not_false_eq_true, not_true_eq_false, Value.category, Nat.reduceEqDiff, Option.toList, List.cons_append, List.nil_append, List.drop_succ_cons, List.drop_zero, ax_qq_eq, ax_t_1159, ax_j_1159_23, ax_n_1159_23, ax_j_1159_28, ax_n_1159_28, w1, hal, e1]
    refine ax_inv_of (Nat.le_of_ble_eq_true rfl) (Nat.le_of_ble_eq_true rfl) (fun _ => absurd ‹_› (by decide)) (fun h => absurd h (by decide)) (Nat.le_refl _) (Nat.le_refl _) (xk_within _ _ _ ?_)
    have e2 : kx_in (nI (zkd t a)) 20 23 = decide (20 ≤ zkd t a ∧ zkd t a ≤ 23) := kx_in_n (a := 20) (b := 23) (by omega) (by decide) (by decide)
    rw [e2]
    by_cases hr : 20 ≤ zkd t a ∧ zkd t a ≤ 23
    · have hn : zName t a := Or.inr hr
      rw [decide_eq_true hn] at hQ
      rw [decide_eq_true hr]
      simp only [ax_W_cons, ax_I, ax_cmp, ax_ii, ax_ll, ax_li, ax_st1, ax_st2, ax_kl, ax_k2, ax_fit, ax_rtok, List.getElem?_cons_zero, List.getElem?_cons_succ, List.length_cons, List.length_nil, List.set_cons_zero, List.set_cons_succ, Nat.reduceAdd, Nat.reduceDiv, Nat.reduceMod, Nat.reduceMul, Nat.reduceLT, Nat.reduceLeDiff, Int32.reduceOfInt, Int64.reduceOfInt, true_and, and_true, and_self, true_or, or_true, false_implies, true_implies, not_false_eq_true, not_true_eq_false, Value.category, Nat.reduceEqDiff, Option.toList, List.cons_append, List.nil_append, List.drop_succ_cons, List.drop_zero, ax_qq_eq, ax_t_1159, ax_j_1159_23, ax_n_1159_23, ax_j_1159_28, ax_n_1159_28, kx_bt, c10]
      exact hQ
    · have hn : ¬ zName t a := fun z => z.elim hz hr
      rw [decide_eq_false hn] at hQ
      rw [decide_eq_false hr]
      simp only [ax_W_cons, ax_I, ax_cmp, ax_ii, ax_ll, ax_li, ax_st1, ax_st2, ax_kl, ax_k2, ax_fit, ax_rtok, List.getElem?_cons_zero, List.getElem?_cons_succ, List.length_cons, List.length_nil, List.set_cons_zero, List.set_cons_succ, Nat.reduceAdd, Nat.reduceDiv, Nat.reduceMod, Nat.reduceMul, Nat.reduceLT, Nat.reduceLeDiff, Int32.reduceOfInt, Int64.reduceOfInt, true_and, and_true, and_self, true_or, or_true, false_implies, true_implies, not_false_eq_true, not_true_eq_false, Value.category, Nat.reduceEqDiff, Option.toList, List.cons_append, List.nil_append, List.drop_succ_cons, List.drop_zero, ax_qq_eq, ax_t_1159, ax_j_1159_27, ax_n_1159_27, ax_j_1159_28, ax_n_1159_28, kx_bf]
      exact hQ
end TT
