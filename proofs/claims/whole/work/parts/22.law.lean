/-! Law: what an E comes to -/
def kl_join (kind x y : Int32) : Int32 := if kind = 18 then (if x = 0 then 0 else if y = 0 then 0 else 1) else if kind = 42 then x * y else if kind = 43 then x + y else if kind = 45 then x - y else if kind = 60 then (if x < y then 1 else 0) else if kind = 61 then (if x = y then 1 else 0) else (if x = 0 then (if y = 0 then 0 else 1) else 1)
theorem kx_ne {x : Int32} {z : Int32} (h : ¬ x = z) : ¬ z.toInt = x.toInt := fun e => h (Int32.toInt_inj.mp e.symm)
theorem ck_join (d n sl : Nat) (es : ax_H) (kind x y : Int32) : ax_Mt d 388 [.int kind, .int x, .int y] n sl es (fun r es' => r = some (.int (kl_join kind x y)) ∧ es' = es) := by
  refine ax_Mt_start (m := ax_m_3_4) (ls := [some (.int kind), some (.int x), some (.int y)]) rfl ax_b_388_0 (Nat.le_of_ble_eq_true rfl) rfl ?_
  simp only [ax_W_cons, ax_I, ax_cmp, ax_ii, ax_ll, ax_li, ax_st1, ax_st2, ax_kl, ax_k2, ax_fit, ax_rtok, List.getElem?_cons_zero, List.getElem?_cons_succ, List.length_cons, List.length_nil, List.set_cons_zero, List.set_cons_succ, Nat.reduceAdd, Nat.reduceDiv, Nat.reduceMod, Nat.reduceMul, Nat.reduceLT, Nat.reduceLeDiff, Int32.reduceOfInt, Int64.reduceOfInt, true_and, and_true, and_self, true_or, or_true, false_implies, true_implies, not_false_eq_true, not_true_eq_false, Value.category, Nat.reduceEqDiff, Option.toList, List.cons_append, List.nil_append, List.drop_succ_cons, List.drop_zero, ax_t_388]
  by_cases h1 : kind = 18
  · subst h1
    show ax_J ax_W _ _ _ _ 94 _ _ _ _ _ _
    simp only [ax_W_cons, ax_I, ax_cmp, ax_ii, ax_ll, ax_li, ax_st1, ax_st2, ax_kl, ax_k2, ax_fit, ax_rtok, List.getElem?_cons_zero, List.getElem?_cons_succ, List.length_cons, List.length_nil, List.set_cons_zero, List.set_cons_succ, Nat.reduceAdd, Nat.reduceDiv, Nat.reduceMod, Nat.reduceMul, Nat.reduceLT, Nat.reduceLeDiff, Int32.reduceOfInt, Int64.reduceOfInt, true_and, and_true, and_self, true_or, or_true, false_implies, true_implies, not_false_eq_true, not_true_eq_false, Value.category, Nat.reduceEqDiff, Option.toList, List.cons_append, List.nil_append, List.drop_succ_cons, List.drop_zero, ax_t_388, ax_j_388_94, ax_n_388_94, ax_j_388_106, ax_n_388_106, ax_j_388_107, ax_n_388_107]
    refine ⟨fun h => ?_, fun h => ⟨fun h2 => ?_, fun h2 => ?_⟩⟩ <;> simp [kl_join, *]
  by_cases h2 : kind = 42
  · subst h2
    show ax_J ax_W _ _ _ _ 60 _ _ _ _ _ _
    simp only [ax_W_cons, ax_I, ax_cmp, ax_ii, ax_ll, ax_li, ax_st1, ax_st2, ax_kl, ax_k2, ax_fit, ax_rtok, List.getElem?_cons_zero, List.getElem?_cons_succ, List.length_cons, List.length_nil, List.set_cons_zero, List.set_cons_succ, Nat.reduceAdd, Nat.reduceDiv, Nat.reduceMod, Nat.reduceMul, Nat.reduceLT, Nat.reduceLeDiff, Int32.reduceOfInt, Int64.reduceOfInt, true_and, and_true, and_self, true_or, or_true, false_implies, true_implies, not_false_eq_true, not_true_eq_false, Value.category, Nat.reduceEqDiff, Option.toList, List.cons_append, List.nil_append, List.drop_succ_cons, List.drop_zero, ax_t_388, ax_j_388_60, ax_n_388_60]
    rfl
  by_cases h3 : kind = 43
  · subst h3
    show ax_J ax_W _ _ _ _ 64 _ _ _ _ _ _
    simp only [ax_W_cons, ax_I, ax_cmp, ax_ii, ax_ll, ax_li, ax_st1, ax_st2, ax_kl, ax_k2, ax_fit, ax_rtok, List.getElem?_cons_zero, List.getElem?_cons_succ, List.length_cons, List.length_nil, List.set_cons_zero, List.set_cons_succ, Nat.reduceAdd, Nat.reduceDiv, Nat.reduceMod, Nat.reduceMul, Nat.reduceLT, Nat.reduceLeDiff, Int32.reduceOfInt, Int64.reduceOfInt, true_and, and_true, and_self, true_or, or_true, false_implies, true_implies, not_false_eq_true, not_true_eq_false, Value.category, Nat.reduceEqDiff, Option.toList, List.cons_append, List.nil_append, List.drop_succ_cons, List.drop_zero, ax_t_388, ax_j_388_64, ax_n_388_64]
    rfl
  by_cases h4 : kind = 45
  · subst h4
    show ax_J ax_W _ _ _ _ 68 _ _ _ _ _ _
    simp only [ax_W_cons, ax_I, ax_cmp, ax_ii, ax_ll, ax_li, ax_st1, ax_st2, ax_kl, ax_k2, ax_fit, ax_rtok, List.getElem?_cons_zero, List.getElem?_cons_succ, List.length_cons, List.length_nil, List.set_cons_zero, List.set_cons_succ, Nat.reduceAdd, Nat.reduceDiv, Nat.reduceMod, Nat.reduceMul, Nat.reduceLT, Nat.reduceLeDiff, Int32.reduceOfInt, Int64.reduceOfInt, true_and, and_true, and_self, true_or, or_true, false_implies, true_implies, not_false_eq_true, not_true_eq_false, Value.category, Nat.reduceEqDiff, Option.toList, List.cons_append, List.nil_append, List.drop_succ_cons, List.drop_zero, ax_t_388, ax_j_388_68, ax_n_388_68]
    rfl
  by_cases h5 : kind = 60
  · subst h5
    show ax_J ax_W _ _ _ _ 72 _ _ _ _ _ _
    simp only [ax_W_cons, ax_I, ax_cmp, ax_ii, ax_ll, ax_li, ax_st1, ax_st2, ax_kl, ax_k2, ax_fit, ax_rtok, List.getElem?_cons_zero, List.getElem?_cons_succ, List.length_cons, List.length_nil, List.set_cons_zero, List.set_cons_succ, Nat.reduceAdd, Nat.reduceDiv, Nat.reduceMod, Nat.reduceMul, Nat.reduceLT, Nat.reduceLeDiff, Int32.reduceOfInt, Int64.reduceOfInt, true_and, and_true, and_self, true_or, or_true, false_implies, true_implies, not_false_eq_true, not_true_eq_false, Value.category, Nat.reduceEqDiff, Option.toList, List.cons_append, List.nil_append, List.drop_succ_cons, List.drop_zero, ax_t_388, ax_j_388_72, ax_n_388_72, ax_j_388_81, ax_n_388_81, ax_j_388_82, ax_n_388_82]
    refine ⟨fun h => ?_, fun h => ?_⟩
    · have h : ¬ x < y := by rw [kx_nlt]; exact h
      simp [kl_join, h]
    · rw [kx_nle] at h
      simp [kl_join, h]
  by_cases h6 : kind = 61
  · subst h6
    show ax_J ax_W _ _ _ _ 83 _ _ _ _ _ _
    simp only [ax_W_cons, ax_I, ax_cmp, ax_ii, ax_ll, ax_li, ax_st1, ax_st2, ax_kl, ax_k2, ax_fit, ax_rtok, List.getElem?_cons_zero, List.getElem?_cons_succ, List.length_cons, List.length_nil, List.set_cons_zero, List.set_cons_succ, Nat.reduceAdd, Nat.reduceDiv, Nat.reduceMod, Nat.reduceMul, Nat.reduceLT, Nat.reduceLeDiff, Int32.reduceOfInt, Int64.reduceOfInt, true_and, and_true, and_self, true_or, or_true, false_implies, true_implies, not_false_eq_true, not_true_eq_false, Value.category, Nat.reduceEqDiff, Option.toList, List.cons_append, List.nil_append, List.drop_succ_cons, List.drop_zero, ax_t_388, ax_j_388_83, ax_n_388_83, ax_j_388_92, ax_n_388_92, ax_j_388_93, ax_n_388_93]
    refine ⟨fun h => ?_, fun h => ?_⟩
    · simp [kl_join, h]
    · simp at h
      simp [kl_join, h]
  have e : ax_lookup [(18, 94), (42, 60), (43, 64), (45, 68), (60, 72), (61, 83)] 108 kind.toInt = 108 := by
    simp only [ax_lookup]
    rw [if_neg (show ¬ (18 : Int) = kind.toInt from kx_ne h1), if_neg (show ¬ (42 : Int) = kind.toInt from kx_ne h2), if_neg (show ¬ (43 : Int) = kind.toInt from kx_ne h3), if_neg (show ¬ (45 : Int) = kind.toInt from kx_ne h4), if_neg (show ¬ (60 : Int) = kind.toInt from kx_ne h5), if_neg (show ¬ (61 : Int) = kind.toInt from kx_ne h6)]
  rw [e]
  simp only [ax_W_cons, ax_I, ax_cmp, ax_ii, ax_ll, ax_li, ax_st1, ax_st2, ax_kl, ax_k2, ax_fit, ax_rtok, List.getElem?_cons_zero, List.getElem?_cons_succ, List.length_cons, List.length_nil, List.set_cons_zero, List.set_cons_succ, Nat.reduceAdd, Nat.reduceDiv, Nat.reduceMod, Nat.reduceMul, Nat.reduceLT, Nat.reduceLeDiff, Int32.reduceOfInt, Int64.reduceOfInt, true_and, and_true, and_self, true_or, or_true, false_implies, true_implies, not_false_eq_true, not_true_eq_false, Value.category, Nat.reduceEqDiff, Option.toList, List.cons_append, List.nil_append, List.drop_succ_cons, List.drop_zero, ax_t_388, ax_j_388_108, ax_n_388_108, ax_j_388_116, ax_n_388_116, ax_j_388_120, ax_n_388_120, ax_j_388_121, ax_n_388_121]
  refine ⟨fun h => ?_, fun h => ⟨fun h7 => ?_, fun h7 => ?_⟩⟩
  · simp [kl_join, h1, h2, h3, h4, h5, h6, h]
  · simp at h
    simp [kl_join, h1, h2, h3, h4, h5, h6, h, h7]
  · simp at h
    simp [kl_join, h1, h2, h3, h4, h5, h6, h, h7]
def kl_isF (item : Int32) : Bool := decide (20 ≤ item ^^^ -1) && decide (item ^^^ -1 ≤ 23)
def kl_step (g : Nat → Int32) (item : Int32) (ms : Nat × (Nat → Int32)) : Nat × (Nat → Int32) :=
  if (0 ≤ item ∨ kl_isF item = true) ∧ ms.1 < 32 then (ms.1 + 1, upd ms.2 ms.1 (if kl_isF item = true then g ((item ^^^ -1) - 20).toNatClampNeg else item))
  else if item ^^^ -1 = 17 ∧ 1 ≤ ms.1 then (ms.1, upd ms.2 (ms.1 - 1) (if ms.2 (ms.1 - 1) = 0 then 1 else 0))
  else if 2 ≤ ms.1 then (ms.1 - 1, upd ms.2 (ms.1 - 2) (kl_join (item ^^^ -1) (ms.2 (ms.1 - 2)) (ms.2 (ms.1 - 1))))
  else ms
def kl_run (g code : Nat → Int32) (a : Nat) (s0 : Nat → Int32) : Nat → Nat × (Nat → Int32)
  | 0 => (0, s0)
  | m + 1 => kl_step g (code (a + m)) (kl_run g code a s0 m)
def kl_val (ms : Nat × (Nat → Int32)) : Int32 := if 0 < ms.1 then kx_max 0 (kx_min 99 (ms.2 0)) else 0
def kl_g (g : Nat → Int32) (a b c e : Int32) : Nat → Int32 := upd (upd (upd (upd g 0 a) 1 b) 2 c) 3 e
theorem kl_top (g code : Nat → Int32) (a : Nat) (s0 : Nat → Int32) : ∀ m, (kl_run g code a s0 m).1 ≤ 32
  | 0 => Nat.zero_le _
  | m + 1 => by
    have ih := kl_top g code a s0 m
    rw [kl_run]
    unfold kl_step
    split
    · show (kl_run g code a s0 m).1 + 1 ≤ 32
      omega
    · split
      · exact ih
      · split
        · show (kl_run g code a s0 m).1 - 1 ≤ 32
          omega
        · exact ih
/-- a law's own rows written: its stack at w + 1, its facts at w + 2 -/
def klw (es : ax_H) (w : Nat) (s g : Nat → Int32) : ax_H := fun j => if j = w + 1 then kb_a 32 s else if j = w + 2 then kb_a 4 g else es j
theorem klw_1 (es : ax_H) (w : Nat) (s g : Nat → Int32) : klw es w s g (w + 1) = .inl (0, 32, .inl s) := by simp [klw, kb_a]
theorem klw_2 (es : ax_H) (w : Nat) (s g : Nat → Int32) : klw es w s g (w + 2) = .inl (0, 4, .inl g) := by simp [klw, kb_a]
theorem klw_ne (es : ax_H) {w j : Nat} (s g : Nat → Int32) (h : j ≠ w + 1 ∧ j ≠ w + 2) : klw es w s g j = es j := by simp [klw, h.1, h.2]
theorem klw_u1 (es : ax_H) (w : Nat) (s g f : Nat → Int32) : ax_up (klw es w s g) (w + 1) (.inl (0, 32, .inl f)) = klw es w f g := by
  funext j
  by_cases h1 : j = w + 1 <;> by_cases h2 : j = w + 2 <;> first | (exfalso; omega) | simp [klw, ax_up, h1, h2, kb_a]
theorem klw_u2 (es : ax_H) (w : Nat) (s g f : Nat → Int32) : ax_up (klw es w s g) (w + 2) (.inl (0, 4, .inl f)) = klw es w s f := by
  funext j
  by_cases h1 : j = w + 1 <;> by_cases h2 : j = w + 2 <;> first | (exfalso; omega) | simp [klw, ax_up, h1, h2, kb_a]
theorem klw_klw (es : ax_H) (w : Nat) (s g s' g' : Nat → Int32) : klw (klw es w s g) w s' g' = klw es w s' g' := by
  funext j
  by_cases h1 : j = w + 1 <;> by_cases h2 : j = w + 2 <;> simp [klw, h1, h2]
theorem klw_same {es : ax_H} {w : Nat} {s g : Nat → Int32} (h1 : es (w + 1) = kb_a 32 s) (h2 : es (w + 2) = kb_a 4 g) : klw es w s g = es := by
  funext j
  by_cases e1 : j = w + 1
  · subst e1
    rw [h1]
    simp [klw]
  · by_cases e2 : j = w + 2
    · subst e2
      rw [h2]
      simp [klw]
    · simp [klw, e1, e2]
theorem kx_v0 : vp_in 0 4 := (show ¬ ((0 : Int32) < 0 ∨ 4 ≤ (0 : Int32).toNatClampNeg) by decide)
theorem kx_v1 : vp_in 1 4 := (show ¬ ((1 : Int32) < 0 ∨ 4 ≤ (1 : Int32).toNatClampNeg) by decide)
theorem kx_v2 : vp_in 2 4 := (show ¬ ((2 : Int32) < 0 ∨ 4 ≤ (2 : Int32).toNatClampNeg) by decide)
theorem kx_v3 : vp_in 3 4 := (show ¬ ((3 : Int32) < 0 ∨ 4 ≤ (3 : Int32).toNatClampNeg) by decide)
theorem kx_m1 : (1 : Int32).toNatClampNeg = 1 := by decide
theorem kx_m2 : (2 : Int32).toNatClampNeg = 2 := by decide
theorem kx_m3 : (3 : Int32).toNatClampNeg = 3 := by decide
theorem kl_isF_in {item : Int32} (h : kl_isF item = true) : vp_in ((item ^^^ -1) - 20) 4 := by
  unfold kl_isF at h
  simp only [Bool.and_eq_true, decide_eq_true_eq] at h
  obtain ⟨h1, h2⟩ := h
  generalize item ^^^ -1 = x at h1 h2
  rw [Int32.le_iff_toInt_le] at h1 h2
  have e20 : (20 : Int32).toInt = 20 := rfl
  have e23 : (23 : Int32).toInt = 23 := rfl
  rw [e20] at h1
  rw [e23] at h2
  have e : ∀ z : Int32, x.toInt = z.toInt → x = z := fun z hz => Int32.toInt_inj.mp hz
  have h4 : x.toInt = 20 ∨ x.toInt = 21 ∨ x.toInt = 22 ∨ x.toInt = 23 := by omega
  rcases h4 with h | h | h | h
  · rw [e 20 (by rw [h]; rfl)]
    exact (show ¬ (((20 : Int32) - 20) < 0 ∨ 4 ≤ ((20 : Int32) - 20).toNatClampNeg) by decide)
  · rw [e 21 (by rw [h]; rfl)]
    exact (show ¬ (((21 : Int32) - 20) < 0 ∨ 4 ≤ ((21 : Int32) - 20).toNatClampNeg) by decide)
  · rw [e 22 (by rw [h]; rfl)]
    exact (show ¬ (((22 : Int32) - 20) < 0 ∨ 4 ≤ ((22 : Int32) - 20).toNatClampNeg) by decide)
  · rw [e 23 (by rw [h]; rfl)]
    exact (show ¬ (((23 : Int32) - 20) < 0 ∨ 4 ≤ ((23 : Int32) - 20).toNatClampNeg) by decide)
theorem ck_valueWithin {d n sl w cp a b : Nat} {es : ax_H} {code s g : Nat → Int32} (hd : 1 ≤ d) (hw : w + 2 < ax_al n) (hcp : cp < ax_al n) (hc1 : cp ≠ w + 1 ∧ cp ≠ w + 2) (h0 : es w = .inr (3, [.ref cp, .ref (w + 1), .ref (w + 2), .int (nI a), .int (nI b)])) (h1 : es (w + 1) = kb_a 32 s) (h2 : es (w + 2) = kb_a 4 g) (hcode : es cp = kb_a 1000 code) (hab : a ≤ b) (hb : b ≤ 1000) (x0 x1 x2 x3 : Int32) :
    ax_Mt d 387 [.ref w, .int x0, .int x1, .int x2, .int x3] n sl es (fun r es' => r = some (.int (kl_val (kl_run (kl_g g x0 x1 x2 x3) code a s (b - a)))) ∧ es' = klw es w (kl_run (kl_g g x0 x1 x2 x3) code a s (b - a)).2 (kl_g g x0 x1 x2 x3)) := by
  obtain ⟨d, rfl⟩ : ∃ z, d = z + 1 := ⟨d - 1, by omega⟩
  obtain ⟨es, rfl⟩ : ∃ es0, es = klw es0 w s g := ⟨es, (klw_same h1 h2).symm⟩
  have g0 : ∀ s g, klw es w s g w = .inr (3, [.ref cp, .ref (w + 1), .ref (w + 2), .int (nI a), .int (nI b)]) := fun s' g' => by
    rw [klw_ne es s' g' (by omega)]
    rw [klw_ne es s g (by omega)] at h0
    exact h0
  have g1 : ∀ s g, klw es w s g cp = .inl (0, 1000, .inl code) := fun s' g' => by
    rw [klw_ne es s' g' hc1]
    rw [klw_ne es s g hc1] at hcode
    exact hcode
  have hq : w < ax_al n := by omega
  have hq1 : w + 1 < ax_al n := by omega
  refine ax_Mt_start (m := ax_m_3_3) (ls := [some (.ref w), some (.int x0), some (.int x1), some (.int x2), some (.int x3), none, none, none, none, none]) rfl ax_b_387_0 (Nat.le_of_ble_eq_true rfl) rfl ?_
  simp only [ax_W_cons, ax_I, ax_cmp, ax_ii, ax_ll, ax_li, ax_st1, ax_st2, ax_kl, ax_k2, ax_fit, ax_rtok, List.getElem?_cons_zero, List.getElem?_cons_succ, List.length_cons, List.length_nil, List.set_cons_zero, List.set_cons_succ, Nat.reduceAdd, Nat.reduceDiv, Nat.reduceMod, Nat.reduceMul, Nat.reduceLT, Nat.reduceLeDiff, Int32.reduceOfInt, Int64.reduceOfInt, true_and, and_true, and_self, true_or, or_true, false_implies, true_implies, not_false_eq_true, not_true_eq_false, Value.category, Nat.reduceEqDiff, Option.toList, List.cons_append, List.nil_append, List.drop_succ_cons, List.drop_zero, ax_t_387, g0, klw_2, klw_u2, hq, hw, kx_v0, kx_v1, kx_v2, kx_v3, kx_n0, kx_m1, kx_m2, kx_m3, klw_klw]
  rw [ax_n_387_38]
  have L := kx_loop (k := b - a) (I := fun c => ∀ v7 v8 v9, ax_W (d + 1) n sl 387 [(2, .iload 6), (1, .aload 0), (3, .getfield 784), (3, .if_icmp .ge 220), (1, .aload 0), (3, .getfield 770), (2, .iload 6), (1, .iaload), (2, .istore 7), (2, .iload 7), (1, .iconst (-1)), (1, .ixor), (2, .istore 8), (2, .iload 8), (2, .iconst 20), (3, .if_icmp .lt 80), (2, .iload 8), (2, .iconst 23), (3, .if_icmp .gt 80), (1, .iconst 1), (3, .goto 81)] 38 [some (.ref w), some (.int x0), some (.int x1), some (.int x2), some (.int x3), some (.int (nI (kl_run (kl_g g x0 x1 x2 x3) code a s c).1)), some (.int (nI (a + c))), v7, v8, v9] [] n sl (klw es w (kl_run (kl_g g x0 x1 x2 x3) code a s c).2 (kl_g g x0 x1 x2 x3)) (fun r n' sl' es' => n' = n ∧ sl' = sl ∧ r = some (.int (kl_val (kl_run (kl_g g x0 x1 x2 x3) code a s (b - a)))) ∧ es' = klw es w (kl_run (kl_g g x0 x1 x2 x3) code a s (b - a)).2 (kl_g g x0 x1 x2 x3))) ?_ ?_
  · exact L none none none
  · intro v7 v8 v9
    rw [show a + (b - a) = b by omega]
    have e0 := kx_nn (k := b) (by omega)
    have ht := kl_top (kl_g g x0 x1 x2 x3) code a s (b - a)
    unfold kl_val
    generalize kl_run (kl_g g x0 x1 x2 x3) code a s (b - a) = R at ht ⊢
    by_cases hR : 0 < R.1
    · have e1 : ¬ nI R.1 ≤ 0 := nI_nle hR (by omega)
      have e2 : vp_in 0 32 := (show ¬ ((0 : Int32) < 0 ∨ 32 ≤ (0 : Int32).toNatClampNeg) by decide)
      simp only [ax_W_cons, ax_I, ax_cmp, ax_ii, ax_ll, ax_li, ax_st1, ax_st2, ax_kl, ax_k2, ax_fit, ax_rtok, List.getElem?_cons_zero, List.getElem?_cons_succ, List.length_cons, List.length_nil, List.set_cons_zero, List.set_cons_succ, Nat.reduceAdd, Nat.reduceDiv, Nat.reduceMod, Nat.reduceMul, Nat.reduceLT, Nat.reduceLeDiff, Int32.reduceOfInt, Int64.reduceOfInt, true_and, and_true, and_self, true_or, or_true, false_implies, true_implies, not_false_eq_true, not_true_eq_false, Value.category, Nat.reduceEqDiff, Option.toList, List.cons_append, List.nil_append, List.drop_succ_cons, List.drop_zero, ax_t_387, ax_j_387_220, ax_n_387_220, g0, klw_1, hq, hq1, e0, e1, e2, kx_n0]
      refine ax_inv_eq (Nat.le_of_ble_eq_true rfl) (Nat.le_of_ble_eq_true rfl) (fun _ => absurd ‹_› (by decide)) (fun h => absurd h (by decide)) (Nat.le_refl _) (Nat.le_refl _) (ck_min d n sl _ 99 (R.2 0)) ?_
      simp only [ax_W_cons, ax_I, ax_cmp, ax_ii, ax_ll, ax_li, ax_st1, ax_st2, ax_kl, ax_k2, ax_fit, ax_rtok, List.getElem?_cons_zero, List.getElem?_cons_succ, List.length_cons, List.length_nil, List.set_cons_zero, List.set_cons_succ, Nat.reduceAdd, Nat.reduceDiv, Nat.reduceMod, Nat.reduceMul, Nat.reduceLT, Nat.reduceLeDiff, Int32.reduceOfInt, Int64.reduceOfInt, true_and, and_true, and_self, true_or, or_true, false_implies, true_implies, not_false_eq_true, not_true_eq_false, Value.category, Nat.reduceEqDiff, Option.toList, List.cons_append, List.nil_append, List.drop_succ_cons, List.drop_zero, ax_t_387]
      refine ax_inv_eq (Nat.le_of_ble_eq_true rfl) (Nat.le_of_ble_eq_true rfl) (fun _ => absurd ‹_› (by decide)) (fun h => absurd h (by decide)) (Nat.le_refl _) (Nat.le_refl _) (ck_max d n sl _ 0 (kx_min 99 (R.2 0))) ?_
      simp only [ax_W_cons, ax_I, ax_cmp, ax_ii, ax_ll, ax_li, ax_st1, ax_st2, ax_kl, ax_k2, ax_fit, ax_rtok, List.getElem?_cons_zero, List.getElem?_cons_succ, List.length_cons, List.length_nil, List.set_cons_zero, List.set_cons_succ, Nat.reduceAdd, Nat.reduceDiv, Nat.reduceMod, Nat.reduceMul, Nat.reduceLT, Nat.reduceLeDiff, Int32.reduceOfInt, Int64.reduceOfInt, true_and, and_true, and_self, true_or, or_true, false_implies, true_implies, not_false_eq_true, not_true_eq_false, Value.category, Nat.reduceEqDiff, Option.toList, List.cons_append, List.nil_append, List.drop_succ_cons, List.drop_zero, ax_t_387, ax_j_387_244, ax_n_387_244]
      rw [if_pos hR]
    · have e1 : nI R.1 ≤ 0 := by
        rw [show R.1 = 0 by omega]
        decide
      simp only [ax_W_cons, ax_I, ax_cmp, ax_ii, ax_ll, ax_li, ax_st1, ax_st2, ax_kl, ax_k2, ax_fit, ax_rtok, List.getElem?_cons_zero, List.getElem?_cons_succ, List.length_cons, List.length_nil, List.set_cons_zero, List.set_cons_succ, Nat.reduceAdd, Nat.reduceDiv, Nat.reduceMod, Nat.reduceMul, Nat.reduceLT, Nat.reduceLeDiff, Int32.reduceOfInt, Int64.reduceOfInt, true_and, and_true, and_self, true_or, or_true, false_implies, true_implies, not_false_eq_true, not_true_eq_false, Value.category, Nat.reduceEqDiff, Option.toList, List.cons_append, List.nil_append, List.drop_succ_cons, List.drop_zero, ax_t_387, ax_j_387_220, ax_n_387_220, ax_j_387_243, ax_n_387_243, ax_j_387_244, ax_n_387_244, g0, hq, e0, e1]
      rw [if_neg hR]
  · intro c hc ih v7 v8 v9
    obtain ⟨e1, e2, e3, e4⟩ := kx_ix (c := a + c) (k := b) (by omega) hb (by decide)
    have ht := kl_top (kl_g g x0 x1 x2 x3) code a s c
    rw [kl_run] at ih
    generalize kl_run (kl_g g x0 x1 x2 x3) code a s c = R at ht ih ⊢
    generalize hit : code (a + c) = item at ih
    simp only [ax_W_cons, ax_I, ax_cmp, ax_ii, ax_ll, ax_li, ax_st1, ax_st2, ax_kl, ax_k2, ax_fit, ax_rtok, List.getElem?_cons_zero, List.getElem?_cons_succ, List.length_cons, List.length_nil, List.set_cons_zero, List.set_cons_succ, Nat.reduceAdd, Nat.reduceDiv, Nat.reduceMod, Nat.reduceMul, Nat.reduceLT, Nat.reduceLeDiff, Int32.reduceOfInt, Int64.reduceOfInt, true_and, and_true, and_self, true_or, or_true, false_implies, true_implies, not_false_eq_true, not_true_eq_false, Value.category, Nat.reduceEqDiff, Option.toList, List.cons_append, List.nil_append, List.drop_succ_cons, List.drop_zero, ax_t_387, g0, g1, hq, hcp, e1, e2, e3, hit]
    have fin : ∀ v7 v8 v9 R', kl_step (kl_g g x0 x1 x2 x3) item R = R' → ax_W (d + 1) n sl 387 [(3, .iinc 6 1), (3, .goto 38)] 214 [some (.ref w), some (.int x0), some (.int x1), some (.int x2), some (.int x3), some (.int (nI R'.1)), some (.int (nI (a + c))), v7, v8, v9] [] n sl (klw es w R'.2 (kl_g g x0 x1 x2 x3)) (fun r n' sl' es' => n' = n ∧ sl' = sl ∧ r = some (.int (kl_val (kl_run (kl_g g x0 x1 x2 x3) code a s (b - a)))) ∧ es' = klw es w (kl_run (kl_g g x0 x1 x2 x3) code a s (b - a)).2 (kl_g g x0 x1 x2 x3)) := by
      intro v7 v8 v9 R' hR'
      simp only [ax_W_cons, ax_I, ax_cmp, ax_ii, ax_ll, ax_li, ax_st1, ax_st2, ax_kl, ax_k2, ax_fit, ax_rtok, List.getElem?_cons_zero, List.getElem?_cons_succ, List.length_cons, List.length_nil, List.set_cons_zero, List.set_cons_succ, Nat.reduceAdd, Nat.reduceDiv, Nat.reduceMod, Nat.reduceMul, Nat.reduceLT, Nat.reduceLeDiff, Int32.reduceOfInt, Int64.reduceOfInt, true_and, and_true, and_self, true_or, or_true, false_implies, true_implies, not_false_eq_true, not_true_eq_false, Value.category, Nat.reduceEqDiff, Option.toList, List.cons_append, List.nil_append, List.drop_succ_cons, List.drop_zero, ax_t_387, e4]
      rw [ax_j_387_38]
      rw [hR'] at ih
      exact ih v7 v8 v9
    have neg : ¬ ((0 ≤ item ∨ kl_isF item = true) ∧ R.1 < 32) → ax_W (d + 1) n sl 387 [(2, .iload 8), (2, .iconst 17), (3, .if_icmp .ne 175), (2, .iload 5), (1, .iconst 1), (3, .if_icmp .lt 175), (1, .aload 0), (3, .getfield 774), (2, .iload 5), (1, .iconst 1), (1, .isub), (1, .aload 0), (3, .getfield 774), (2, .iload 5), (1, .iconst 1), (1, .isub), (1, .iaload), (3, .ifCond .ne 170), (1, .iconst 1), (3, .goto 171)] 133 [some (.ref w), some (.int x0), some (.int x1), some (.int x2), some (.int x3), some (.int (nI R.1)), some (.int (nI (a + c))), some (.int item), some (.int (item ^^^ -1)), some (.int (kx_b (kl_isF item)))] [] n sl (klw es w R.2 (kl_g g x0 x1 x2 x3)) (fun r n' sl' es' => n' = n ∧ sl' = sl ∧ r = some (.int (kl_val (kl_run (kl_g g x0 x1 x2 x3) code a s (b - a)))) ∧ es' = klw es w (kl_run (kl_g g x0 x1 x2 x3) code a s (b - a)).2 (kl_g g x0 x1 x2 x3)) := by
      intro hno
      by_cases h17 : item ^^^ -1 = 17 ∧ 1 ≤ R.1
      · have f5 : ¬ nI R.1 < 1 := nI_nlt (b := 1) h17.2 (by omega)
        have f6 : nI R.1 - 1 = nI (R.1 - 1) := by
          obtain ⟨z, hz⟩ : ∃ z, R.1 = z + 1 := ⟨R.1 - 1, by omega⟩
          rw [hz]
          exact nI_pred z
        have f7 : vp_in (nI (R.1 - 1)) 32 := nI_in (by omega) (by decide)
        have f8 : (nI (R.1 - 1)).toNatClampNeg = R.1 - 1 := nI_clamp (by omega)
        simp only [ax_W_cons, ax_I, ax_cmp, ax_ii, ax_ll, ax_li, ax_st1, ax_st2, ax_kl, ax_k2, ax_fit, ax_rtok, List.getElem?_cons_zero, List.getElem?_cons_succ, List.length_cons, List.length_nil, List.set_cons_zero, List.set_cons_succ, Nat.reduceAdd, Nat.reduceDiv, Nat.reduceMod, Nat.reduceMul, Nat.reduceLT, Nat.reduceLeDiff, Int32.reduceOfInt, Int64.reduceOfInt, true_and, and_true, and_self, true_or, or_true, false_implies, true_implies, not_false_eq_true, not_true_eq_false, Value.category, Nat.reduceEqDiff, Option.toList, List.cons_append, List.nil_append, List.drop_succ_cons, List.drop_zero, ax_t_387, ax_j_387_170, ax_n_387_170, ax_j_387_171, ax_n_387_171, g0, klw_1, klw_u1, hq, hq1, h17.1, f5, f6, f7, f8]
        simp only [ax_j_387_214]
        have hf := fun v7 v8 v9 => fin v7 v8 v9 _ (by rw [kl_step, if_neg hno, if_pos h17])
        refine ⟨fun h => ?_, fun h => ?_⟩
        · rw [if_neg h] at hf
          exact hf _ _ _
        · simp only [Classical.not_not] at h
          rw [if_pos h] at hf
          exact hf _ _ _
      · by_cases h2 : 2 ≤ R.1
        · have f1 : ¬ item ^^^ -1 = 17 := fun z => h17 ⟨z, by omega⟩
          have f5 : ¬ nI R.1 < 2 := nI_nlt (b := 2) h2 (by omega)
          obtain ⟨z, hz⟩ : ∃ z, R.1 = z + 2 := ⟨R.1 - 2, by omega⟩
          have f6 : nI R.1 + -1 = nI (z + 1) := by
            rw [hz]
            exact nI_dec (z + 1)
          have f7 : nI (z + 1) - 1 = nI z := nI_pred z
          have f8 : vp_in (nI z) 32 := nI_in (by omega) (by decide)
          have f9 : vp_in (nI (z + 1)) 32 := nI_in (by omega) (by decide)
          have fa : (nI z).toNatClampNeg = z := nI_clamp (by omega)
          have fb : (nI (z + 1)).toNatClampNeg = z + 1 := nI_clamp (by omega)
          simp only [ax_W_cons, ax_I, ax_cmp, ax_ii, ax_ll, ax_li, ax_st1, ax_st2, ax_kl, ax_k2, ax_fit, ax_rtok, List.getElem?_cons_zero, List.getElem?_cons_succ, List.length_cons, List.length_nil, List.set_cons_zero, List.set_cons_succ, Nat.reduceAdd, Nat.reduceDiv, Nat.reduceMod, Nat.reduceMul, Nat.reduceLT, Nat.reduceLeDiff, Int32.reduceOfInt, Int64.reduceOfInt, true_and, and_true, and_self, true_or, or_true, false_implies, true_implies, not_false_eq_true, not_true_eq_false, Value.category, Nat.reduceEqDiff, Option.toList, List.cons_append, List.nil_append, List.drop_succ_cons, List.drop_zero, ax_t_387, ax_j_387_175, ax_n_387_175, g0, klw_1, hq, hq1, f1, f5, f6, f7, f8, f9, fa, fb]
          refine ax_inv_eq (Nat.le_of_ble_eq_true rfl) (Nat.le_of_ble_eq_true rfl) (fun _ => absurd ‹_› (by decide)) (fun h => absurd h (by decide)) (Nat.le_refl _) (Nat.le_refl _) (ck_join d n sl _ (item ^^^ -1) (R.2 z) (R.2 (z + 1))) ?_
          simp only [ax_W_cons, ax_I, ax_cmp, ax_ii, ax_ll, ax_li, ax_st1, ax_st2, ax_kl, ax_k2, ax_fit, ax_rtok, List.getElem?_cons_zero, List.getElem?_cons_succ, List.length_cons, List.length_nil, List.set_cons_zero, List.set_cons_succ, Nat.reduceAdd, Nat.reduceDiv, Nat.reduceMod, Nat.reduceMul, Nat.reduceLT, Nat.reduceLeDiff, Int32.reduceOfInt, Int64.reduceOfInt, true_and, and_true, and_self, true_or, or_true, false_implies, true_implies, not_false_eq_true, not_true_eq_false, Value.category, Nat.reduceEqDiff, Option.toList, List.cons_append, List.nil_append, List.drop_succ_cons, List.drop_zero, ax_t_387, klw_1, klw_u1, hq1, f8, fa]
          rw [ax_n_387_214]
          have hf := fun v7 v8 v9 => fin v7 v8 v9 _ (by rw [kl_step, if_neg hno, if_neg h17, if_pos h2])
          rw [hz] at hf
          exact hf _ _ _
        · have f5 : nI R.1 < 2 := nI_lt (b := 2) (by omega) (by decide)
          have hf := fun v7 v8 v9 => fin v7 v8 v9 _ (by rw [kl_step, if_neg hno, if_neg h17, if_neg h2])
          by_cases f1 : item ^^^ -1 = 17
          · have f6 : nI R.1 < 1 := nI_lt (b := 1) (by
              have : ¬ 1 ≤ R.1 := fun z => h17 ⟨f1, z⟩
              omega) (by decide)
            simp only [ax_W_cons, ax_I, ax_cmp, ax_ii, ax_ll, ax_li, ax_st1, ax_st2, ax_kl, ax_k2, ax_fit, ax_rtok, List.getElem?_cons_zero, List.getElem?_cons_succ, List.length_cons, List.length_nil, List.set_cons_zero, List.set_cons_succ, Nat.reduceAdd, Nat.reduceDiv, Nat.reduceMod, Nat.reduceMul, Nat.reduceLT, Nat.reduceLeDiff, Int32.reduceOfInt, Int64.reduceOfInt, true_and, and_true, and_self, true_or, or_true, false_implies, true_implies, not_false_eq_true, not_true_eq_false, Value.category, Nat.reduceEqDiff, Option.toList, List.cons_append, List.nil_append, List.drop_succ_cons, List.drop_zero, ax_t_387, ax_j_387_175, ax_n_387_175, f1, f5, f6]
            rw [ax_j_387_214]
            exact hf _ _ _
          · simp only [ax_W_cons, ax_I, ax_cmp, ax_ii, ax_ll, ax_li, ax_st1, ax_st2, ax_kl, ax_k2, ax_fit, ax_rtok, List.getElem?_cons_zero, List.getElem?_cons_succ, List.length_cons, List.length_nil, List.set_cons_zero, List.set_cons_succ, Nat.reduceAdd, Nat.reduceDiv, Nat.reduceMod, Nat.reduceMul, Nat.reduceLT, Nat.reduceLeDiff, Int32.reduceOfInt, Int64.reduceOfInt, true_and, and_true, and_self, true_or, or_true, false_implies, true_implies, not_false_eq_true, not_true_eq_false, Value.category, Nat.reduceEqDiff, Option.toList, List.cons_append, List.nil_append, List.drop_succ_cons, List.drop_zero, ax_t_387, ax_j_387_175, ax_n_387_175, f1, f5]
            rw [ax_j_387_214]
            exact hf _ _ _
    have b93 : (0 ≤ item ∨ kl_isF item = true) → ax_W (d + 1) n sl 387 [(2, .iload 5), (2, .iconst 32), (3, .if_icmp .ge 133), (1, .aload 0), (3, .getfield 774), (2, .iload 5), (2, .iload 9), (3, .ifCond .eq 124), (1, .aload 0), (3, .getfield 778), (2, .iload 8), (2, .iconst 20), (1, .isub), (1, .iaload), (3, .goto 126)] 93 [some (.ref w), some (.int x0), some (.int x1), some (.int x2), some (.int x3), some (.int (nI R.1)), some (.int (nI (a + c))), some (.int item), some (.int (item ^^^ -1)), some (.int (kx_b (kl_isF item)))] [] n sl (klw es w R.2 (kl_g g x0 x1 x2 x3)) (fun r n' sl' es' => n' = n ∧ sl' = sl ∧ r = some (.int (kl_val (kl_run (kl_g g x0 x1 x2 x3) code a s (b - a)))) ∧ es' = klw es w (kl_run (kl_g g x0 x1 x2 x3) code a s (b - a)).2 (kl_g g x0 x1 x2 x3)) := by
      intro hyes
      by_cases h32 : R.1 < 32
      · have f5 : ¬ (32 : Int32) ≤ nI R.1 := nI_ge (b := 32) h32 (by decide)
        have f7 : vp_in (nI R.1) 32 := nI_in h32 (by decide)
        have f8 : (nI R.1).toNatClampNeg = R.1 := nI_clamp (by omega)
        have f9 : nI R.1 + 1 = nI (R.1 + 1) := (nI_succ _).symm
        have hf := fun v7 v8 v9 => fin v7 v8 v9 _ (by rw [kl_step, if_pos ⟨hyes, h32⟩])
        by_cases hF : kl_isF item = true
        · have fa := kl_isF_in hF
          have fb : ¬ kx_b (kl_isF item) = 0 := by rw [hF]; decide
          simp only [ax_W_cons, ax_I, ax_cmp, ax_ii, ax_ll, ax_li, ax_st1, ax_st2, ax_kl, ax_k2, ax_fit, ax_rtok, List.getElem?_cons_zero, List.getElem?_cons_succ, List.length_cons, List.length_nil, List.set_cons_zero, List.set_cons_succ, Nat.reduceAdd, Nat.reduceDiv, Nat.reduceMod, Nat.reduceMul, Nat.reduceLT, Nat.reduceLeDiff, Int32.reduceOfInt, Int64.reduceOfInt, true_and, and_true, and_self, true_or, or_true, false_implies, true_implies, not_false_eq_true, not_true_eq_false, Value.category, Nat.reduceEqDiff, Option.toList, List.cons_append, List.nil_append, List.drop_succ_cons, List.drop_zero, ax_t_387, ax_j_387_126, ax_n_387_126, g0, klw_1, klw_2, klw_u1, hq, hq1, hw, f5, f7, f8, f9, fa, fb]
          rw [ax_j_387_214]
          rw [if_pos hF] at hf
          exact hf _ _ _
        · have fb : kx_b (kl_isF item) = 0 := by simp [kx_b, hF]
          simp only [ax_W_cons, ax_I, ax_cmp, ax_ii, ax_ll, ax_li, ax_st1, ax_st2, ax_kl, ax_k2, ax_fit, ax_rtok, List.getElem?_cons_zero, List.getElem?_cons_succ, List.length_cons, List.length_nil, List.set_cons_zero, List.set_cons_succ, Nat.reduceAdd, Nat.reduceDiv, Nat.reduceMod, Nat.reduceMul, Nat.reduceLT, Nat.reduceLeDiff, Int32.reduceOfInt, Int64.reduceOfInt, true_and, and_true, and_self, true_or, or_true, false_implies, true_implies, not_false_eq_true, not_true_eq_false, Value.category, Nat.reduceEqDiff, Option.toList, List.cons_append, List.nil_append, List.drop_succ_cons, List.drop_zero, ax_t_387, ax_j_387_124, ax_n_387_124, ax_j_387_126, ax_n_387_126, g0, klw_1, klw_u1, hq, hq1, f5, f7, f8, f9, fb]
          rw [ax_j_387_214]
          rw [if_neg hF] at hf
          have hf := hf (some (.int item)) (some (.int (item ^^^ -1))) (some (.int (kx_b (kl_isF item))))
          rw [fb] at hf
          exact hf
      · have f5 : (32 : Int32) ≤ nI R.1 := nI_le (a := 32) (by omega) (by omega)
        simp only [ax_W_cons, ax_I, ax_cmp, ax_ii, ax_ll, ax_li, ax_st1, ax_st2, ax_kl, ax_k2, ax_fit, ax_rtok, List.getElem?_cons_zero, List.getElem?_cons_succ, List.length_cons, List.length_nil, List.set_cons_zero, List.set_cons_succ, Nat.reduceAdd, Nat.reduceDiv, Nat.reduceMod, Nat.reduceMul, Nat.reduceLT, Nat.reduceLeDiff, Int32.reduceOfInt, Int64.reduceOfInt, true_and, and_true, and_self, true_or, or_true, false_implies, true_implies, not_false_eq_true, not_true_eq_false, Value.category, Nat.reduceEqDiff, Option.toList, List.cons_append, List.nil_append, List.drop_succ_cons, List.drop_zero, ax_t_387, f5]
        rw [ax_j_387_133]
        exact neg (fun z => h32 z.2)
    have b81 : ax_W (d + 1) n sl 387 [(2, .istore 9), (2, .iload 7), (3, .ifCond .ge 93), (2, .iload 9), (3, .ifCond .eq 133)] 81 [some (.ref w), some (.int x0), some (.int x1), some (.int x2), some (.int x3), some (.int (nI R.1)), some (.int (nI (a + c))), some (.int item), some (.int (item ^^^ -1)), v9] [.int (kx_b (kl_isF item))] n sl (klw es w R.2 (kl_g g x0 x1 x2 x3)) (fun r n' sl' es' => n' = n ∧ sl' = sl ∧ r = some (.int (kl_val (kl_run (kl_g g x0 x1 x2 x3) code a s (b - a)))) ∧ es' = klw es w (kl_run (kl_g g x0 x1 x2 x3) code a s (b - a)).2 (kl_g g x0 x1 x2 x3)) := by
      simp only [ax_W_cons, ax_I, ax_cmp, ax_ii, ax_ll, ax_li, ax_st1, ax_st2, ax_kl, ax_k2, ax_fit, ax_rtok, List.getElem?_cons_zero, List.getElem?_cons_succ, List.length_cons, List.length_nil, List.set_cons_zero, List.set_cons_succ, Nat.reduceAdd, Nat.reduceDiv, Nat.reduceMod, Nat.reduceMul, Nat.reduceLT, Nat.reduceLeDiff, Int32.reduceOfInt, Int64.reduceOfInt, true_and, and_true, and_self, true_or, or_true, false_implies, true_implies, not_false_eq_true, not_true_eq_false, Value.category, Nat.reduceEqDiff, Option.toList, List.cons_append, List.nil_append, List.drop_succ_cons, List.drop_zero, ax_t_387]
      refine ⟨fun h => ?_, fun h => ⟨fun h2 => ?_, fun h2 => ?_⟩⟩
      · rw [ax_j_387_93]
        exact b93 (Or.inl h)
      · rw [ax_j_387_133]
        refine neg (fun z => z.1.elim h (fun y => ?_))
        rw [y] at h2
        exact absurd h2 (by decide)
      · rw [ax_n_387_93]
        refine b93 (Or.inr ?_)
        rw [kx_b0] at h2
        simpa using h2
    refine ⟨fun h => ?_, fun h => ⟨fun h2 => ?_, fun h2 => ?_⟩⟩
    · have hF : kl_isF item = false := by
        have h := kx_lt_nle h
        unfold kl_isF
        rw [decide_eq_false h, Bool.false_and]
      rw [hF] at b81
      simp only [ax_W_cons, ax_I, ax_cmp, ax_ii, ax_ll, ax_li, ax_st1, ax_st2, ax_kl, ax_k2, ax_fit, ax_rtok, List.getElem?_cons_zero, List.getElem?_cons_succ, List.length_cons, List.length_nil, List.set_cons_zero, List.set_cons_succ, Nat.reduceAdd, Nat.reduceDiv, Nat.reduceMod, Nat.reduceMul, Nat.reduceLT, Nat.reduceLeDiff, Int32.reduceOfInt, Int64.reduceOfInt, true_and, and_true, and_self, true_or, or_true, false_implies, true_implies, not_false_eq_true, not_true_eq_false, Value.category, Nat.reduceEqDiff, Option.toList, List.cons_append, List.nil_append, List.drop_succ_cons, List.drop_zero, ax_t_387, ax_j_387_80, ax_n_387_80]
      rw [ax_n_387_81]
      exact b81
    · have hF : kl_isF item = false := by
        have h2 := kx_lt_nle h2
        unfold kl_isF
        rw [decide_eq_false h2, Bool.and_false]
      rw [hF] at b81
      simp only [ax_W_cons, ax_I, ax_cmp, ax_ii, ax_ll, ax_li, ax_st1, ax_st2, ax_kl, ax_k2, ax_fit, ax_rtok, List.getElem?_cons_zero, List.getElem?_cons_succ, List.length_cons, List.length_nil, List.set_cons_zero, List.set_cons_succ, Nat.reduceAdd, Nat.reduceDiv, Nat.reduceMod, Nat.reduceMul, Nat.reduceLT, Nat.reduceLeDiff, Int32.reduceOfInt, Int64.reduceOfInt, true_and, and_true, and_self, true_or, or_true, false_implies, true_implies, not_false_eq_true, not_true_eq_false, Value.category, Nat.reduceEqDiff, Option.toList, List.cons_append, List.nil_append, List.drop_succ_cons, List.drop_zero, ax_t_387, ax_j_387_80, ax_n_387_80]
      rw [ax_n_387_81]
      exact b81
    · have hF : kl_isF item = true := by
        rw [kx_nlt] at h h2
        unfold kl_isF
        rw [decide_eq_true h, decide_eq_true h2]
        rfl
      rw [hF] at b81
      rw [ax_j_387_81]
      exact b81
