/-! the reference: its tokens -/
def zsrt (k : Nat) : Nat := if k ≤ 24 then 1 else if k = 25 then 2 else if k = 26 then 0 else if k = 27 then 4 else 3
def rB (so pl : Nat → Int32) (va : Nat → Int64) (t : zTp) (b : Nat) : Prop := so b = nI (zsrt (zkd t b)) ∧ pl b = nI (zpl t b) ∧ (zkd t b ≤ 24 → va b = nL (zv37 (zwd t b))) ∧ (zkd t b = 25 → va b = nL (znb t b)) ∧ (28 ≤ zkd t b → va b = nL (zkd t b))
/-- the rows of the tokens, up to the end -/
def rT (es : ax_H) (t : zTp) : Prop := ∃ so pl va, es 161 = .inl (0, 1002, .inl so) ∧ es 162 = .inl (0, 1002, .inl pl) ∧ es 163 = .inl (3, 1002, .inr (.inl va)) ∧ ∀ a, zpre t a → rB so pl va t a
/-- rows of their kind, whatever is in them -/
def rTs (es : ax_H) : Prop := ∃ so pl va, es 161 = .inl (0, 1002, .inl so) ∧ es 162 = .inl (0, 1002, .inl pl) ∧ es 163 = .inl (3, 1002, .inr (.inl va))
theorem zskip_bl {t : zTp} {k : Nat} (hk : k < t.1) (hb : zBl (t.2 k) = true) : zskip t (k + 1) = zskip t k := by
  unfold zskip
  obtain ⟨f, hf⟩ : ∃ f, t.1 - k = f + 1 := ⟨t.1 - k - 1, by omega⟩
  rw [hf, zrun, if_pos hb, show t.1 - (k + 1) = f by omega]
theorem zskip_at {t : zTp} {k : Nat} (hb : zBl (t.2 k) = false) : zskip t k = k := by
  unfold zskip
  cases t.1 - k with
  | zero => rfl
  | succ f => rw [zrun, if_neg (by rw [hb]; decide)]
theorem zskip_end {t : zTp} {k : Nat} (h : t.1 ≤ k) : zskip t k = k := by
  unfold zskip
  rw [show t.1 - k = 0 by omega]
  rfl
theorem kn_sub {a b : Nat} (h : b ≤ a) : nI a - nI b = nI (a - b) := by
  have e8 : nI a = nI (a - b) + nI b := by rw [kn_add]; congr 1; omega
  rw [e8, Int32.add_sub_cancel]
section TT
variable {d n sl : Nat} {es : ax_H} {t : zTp} {Q : Option Value → ax_H → Prop}
theorem mk_isL {b : Nat} (hb : b < 256) (hQ : Q (some (.int (kx_b (zL b)))) es) : ax_Mt d 1412 [.int (nI b)] n sl es Q := by
  rw [zL_eq hb] at hQ
  unfold kx_in at hQ
  refine ax_Mt_go (m := ax_m_11_4) (ls := [some (.int (nI b))]) rfl ax_b_1412_0 (Nat.le_of_ble_eq_true rfl) rfl ?_
  simp only [ax_W_cons, ax_I, ax_cmp, ax_ii, ax_ll, ax_li, ax_st1, ax_st2, ax_kl, ax_k2, ax_fit, ax_rtok, List.getElem?_cons_zero, List.getElem?_cons_succ, List.length_cons, List.length_nil, List.set_cons_zero, List.set_cons_succ, Nat.reduceAdd, Nat.reduceDiv, Nat.reduceMod, Nat.reduceMul, Nat.reduceLT, Nat.reduceLeDiff, Int32.reduceOfInt, Int64.reduceOfInt, true_and, and_true, and_self, true_or, or_true, false_implies, true_implies, not_false_eq_true, not_true_eq_false, Value.category, Nat.reduceEqDiff, Option.toList, List.cons_append, List.nil_append, List.drop_succ_cons, List.drop_zero, ax_qq_eq, ax_t_1412, ax_j_1412_16, ax_n_1412_16, ax_j_1412_17, ax_n_1412_17]
  refine ⟨fun h => ?_, fun h => ⟨fun h2 => ?_, fun h2 => ?_⟩⟩
  · rw [decide_eq_false (kx_lt_nle h), Bool.false_and] at hQ
    exact hQ
  · rw [decide_eq_false (kx_lt_nle h2), Bool.and_false] at hQ
    exact hQ
  · rw [kx_nlt] at h h2
    rw [decide_eq_true h, decide_eq_true h2] at hQ
    exact hQ
theorem mk_isDg {b : Nat} (hb : b < 256) (hQ : Q (some (.int (kx_b (zD b)))) es) : ax_Mt d 1413 [.int (nI b)] n sl es Q := by
  rw [zD_eq hb] at hQ
  unfold kx_in at hQ
  refine ax_Mt_go (m := ax_m_11_5) (ls := [some (.int (nI b))]) rfl ax_b_1413_0 (Nat.le_of_ble_eq_true rfl) rfl ?_
  simp only [ax_W_cons, ax_I, ax_cmp, ax_ii, ax_ll, ax_li, ax_st1, ax_st2, ax_kl, ax_k2, ax_fit, ax_rtok, List.getElem?_cons_zero, List.getElem?_cons_succ, List.length_cons, List.length_nil, List.set_cons_zero, List.set_cons_succ, Nat.reduceAdd, Nat.reduceDiv, Nat.reduceMod, Nat.reduceMul, Nat.reduceLT, Nat.reduceLeDiff, Int32.reduceOfInt, Int64.reduceOfInt, true_and, and_true, and_self, true_or, or_true, false_implies, true_implies, not_false_eq_true, not_true_eq_false, Value.category, Nat.reduceEqDiff, Option.toList, List.cons_append, List.nil_append, List.drop_succ_cons, List.drop_zero, ax_qq_eq, ax_t_1413, ax_j_1413_16, ax_n_1413_16, ax_j_1413_17, ax_n_1413_17]
  refine ⟨fun h => ?_, fun h => ⟨fun h2 => ?_, fun h2 => ?_⟩⟩
  · rw [decide_eq_false (kx_lt_nle h), Bool.false_and] at hQ
    exact hQ
  · rw [decide_eq_false (kx_lt_nle h2), Bool.and_false] at hQ
    exact hQ
  · rw [kx_nlt] at h h2
    rw [decide_eq_true h, decide_eq_true h2] at hQ
    exact hQ
theorem mk_rank {b : Nat} (hb : b < 256) (hl : zL b = true) (hQ : Q (some (.int (nI (b - 96)))) es) : ax_Mt (d + 1) 1414 [.int (nI b)] n sl es Q := by
  have c10 : ¬ (1 : Int32) = 0 := by decide
  have h97 : 97 ≤ b := by
    unfold zL at hl
    simp at hl
    omega
  have e1 : nI b - 96 = nI (b - 96) := kn_sub (b := 96) (by omega)
  refine ax_Mt_go (m := ax_m_11_6) (ls := [some (.int (nI b))]) rfl ax_b_1414_0 (Nat.le_of_ble_eq_true rfl) rfl ?_
  simp only [ax_W_cons, ax_I, ax_cmp, ax_ii, ax_ll, ax_li, ax_st1, ax_st2, ax_kl, ax_k2, ax_fit, ax_rtok, List.getElem?_cons_zero, List.getElem?_cons_succ, List.length_cons, List.length_nil, List.set_cons_zero, List.set_cons_succ, Nat.reduceAdd, Nat.reduceDiv, Nat.reduceMod, Nat.reduceMul, Nat.reduceLT, Nat.reduceLeDiff, Int32.reduceOfInt, Int64.reduceOfInt, true_and, and_true, and_self, true_or, or_true, false_implies, true_implies, not_false_eq_true, not_true_eq_false, Value.category, Nat.reduceEqDiff, Option.toList, List.cons_append, List.nil_append, List.drop_succ_cons, List.drop_zero, ax_qq_eq, ax_t_1414]
  refine ax_inv_of (Nat.le_of_ble_eq_true rfl) (Nat.le_of_ble_eq_true rfl) (fun _ => absurd ‹_› (by decide)) (fun h => absurd h (by decide)) (Nat.le_refl _) (Nat.le_refl _) (mk_isL hb ?_)
  rw [hl]
  simp only [ax_W_cons, ax_I, ax_cmp, ax_ii, ax_ll, ax_li, ax_st1, ax_st2, ax_kl, ax_k2, ax_fit, ax_rtok, List.getElem?_cons_zero, List.getElem?_cons_succ, List.length_cons, List.length_nil, List.set_cons_zero, List.set_cons_succ, Nat.reduceAdd, Nat.reduceDiv, Nat.reduceMod, Nat.reduceMul, Nat.reduceLT, Nat.reduceLeDiff, Int32.reduceOfInt, Int64.reduceOfInt, true_and, and_true, and_self, true_or, or_true, false_implies, true_implies, not_false_eq_true, not_true_eq_false, Value.category, Nat.reduceEqDiff, Option.toList, List.cons_append, List.nil_append, List.drop_succ_cons, List.drop_zero, ax_qq_eq, ax_t_1414, ax_j_1414_18, ax_n_1414_18, kx_bt, c10, e1]
  exact hQ
theorem mk_isSn {b : Nat} (hb : b < 256) (hQ : Q (some (.int (kx_b (zSn b)))) es) : ax_Mt d 1415 [.int (nI b)] n sl es Q := by
  have y : zSn b = true → Q (some (.int 1)) es := fun h => by rw [h] at hQ; exact hQ
  have no : zSn b = false → Q (some (.int 0)) es := fun h => by rw [h] at hQ; exact hQ
  have n0 : ((0 : Int32) = 0 ∨ (0 : Int32) = 1) := Or.inl rfl
  have n1 : ((1 : Int32) = 0 ∨ (1 : Int32) = 1) := Or.inr rfl
  have e40 : (nI b = 40) = (b = 40) := propext ⟨fun z => kn_inj (b := 40) (by omega) (by decide) z, fun z => by rw [z]; rfl⟩
  have e41 : (nI b = 41) = (b = 41) := propext ⟨fun z => kn_inj (b := 41) (by omega) (by decide) z, fun z => by rw [z]; rfl⟩
  have e59 : (nI b = 59) = (b = 59) := propext ⟨fun z => kn_inj (b := 59) (by omega) (by decide) z, fun z => by rw [z]; rfl⟩
  have e61 : (nI b = 61) = (b = 61) := propext ⟨fun z => kn_inj (b := 61) (by omega) (by decide) z, fun z => by rw [z]; rfl⟩
  have e60 : (nI b = 60) = (b = 60) := propext ⟨fun z => kn_inj (b := 60) (by omega) (by decide) z, fun z => by rw [z]; rfl⟩
  have e43 : (nI b = 43) = (b = 43) := propext ⟨fun z => kn_inj (b := 43) (by omega) (by decide) z, fun z => by rw [z]; rfl⟩
  have e45 : (nI b = 45) = (b = 45) := propext ⟨fun z => kn_inj (b := 45) (by omega) (by decide) z, fun z => by rw [z]; rfl⟩
  have e42 : (nI b = 42) = (b = 42) := propext ⟨fun z => kn_inj (b := 42) (by omega) (by decide) z, fun z => by rw [z]; rfl⟩
  have yy : (b = 40 ∨ b = 41 ∨ b = 42 ∨ b = 43 ∨ b = 45 ∨ b = 59 ∨ b = 60 ∨ b = 61) → Q (some (.int 1)) es := fun h => y (decide_eq_true h)
  have nn : ¬ (b = 40 ∨ b = 41 ∨ b = 42 ∨ b = 43 ∨ b = 45 ∨ b = 59 ∨ b = 60 ∨ b = 61) → Q (some (.int 0)) es := fun h => no (decide_eq_false h)
  refine ax_Mt_go (m := ax_m_11_7) (ls := [some (.int (nI b))]) rfl ax_b_1415_0 (Nat.le_of_ble_eq_true rfl) rfl ?_
  simp only [ax_W_cons, ax_I, ax_cmp, ax_ii, ax_ll, ax_li, ax_st1, ax_st2, ax_kl, ax_k2, ax_fit, ax_rtok, List.getElem?_cons_zero, List.getElem?_cons_succ, List.length_cons, List.length_nil, List.set_cons_zero, List.set_cons_succ, Nat.reduceAdd, Nat.reduceDiv, Nat.reduceMod, Nat.reduceMul, Nat.reduceLT, Nat.reduceLeDiff, Int32.reduceOfInt, Int64.reduceOfInt, true_and, and_true, and_self, true_or, or_true, false_implies, true_implies, not_false_eq_true, not_true_eq_false, Value.category, Nat.reduceEqDiff, Option.toList, List.cons_append, List.nil_append, List.drop_succ_cons, List.drop_zero, ax_qq_eq, ax_t_1415, ax_j_1415_48, ax_n_1415_48, ax_j_1415_52, ax_n_1415_52, ax_j_1415_53, ax_n_1415_53, e40, e41, e42, e43, e45, e59, e60, e61]
  refine ⟨fun h => yy (by omega), fun h1 => ⟨fun h => yy (by omega), fun h2 => ⟨fun h => yy (by omega), fun h3 => ⟨fun h => yy (by omega), fun h4 => ⟨fun h => yy (by omega), fun h5 => ⟨fun h => yy (by omega), fun h6 => ⟨fun h => yy (by omega), fun h7 => ⟨fun h => nn (by omega), fun h => yy (by omega)⟩⟩⟩⟩⟩⟩⟩⟩
theorem mk_cutAll (hal : ax_al n = 178) (ht : zT_ok t) {th sz at0 fl cd nm rm on fh un : Int32} {g : Int64} (hO : es 159 = .inr (11, mo_f th (nI t.1) sz at0 fl cd nm rm on fh un g)) (hT : mTp es t) (hS : rTs es) (hQ : ∀ es', es' 159 = .inr (11, mo_f th 0 (nI t.1) 0 0 cd nm rm on fh un g) → rT es' t → (∀ j, j ≠ 159 ∧ j ≠ 161 ∧ j ≠ 162 ∧ j ≠ 163 → es' j = es j) → Q none es') : ax_Mt (d + 3) 1416 [.ref 159] n sl es Q := by
  obtain ⟨tp, tp1, tp2⟩ := hT
  obtain ⟨so0, pl0, va0, s1, s2, s3⟩ := hS
  have hL := ht.1
  have c10 : ¬ (1 : Int32) = 0 := by decide
  refine ax_Mt_go (m := ax_m_11_8) (ls := [some (.ref 159), none, none, none, none, none, none]) rfl ax_b_1416_0 (Nat.le_of_ble_eq_true rfl) rfl ?_
  simp only [ax_W_cons, ax_I, ax_cmp, ax_ii, ax_ll, ax_li, ax_st1, ax_st2, ax_kl, ax_k2, ax_fit, ax_rtok, List.getElem?_cons_zero, List.getElem?_cons_succ, List.length_cons, List.length_nil, List.set_cons_zero, List.set_cons_succ, Nat.reduceAdd, Nat.reduceDiv, Nat.reduceMod, Nat.reduceMul, Nat.reduceLT, Nat.reduceLeDiff, Int32.reduceOfInt, Int64.reduceOfInt, true_and, and_true, and_self, true_or, or_true, false_implies, true_implies, not_false_eq_true, not_true_eq_false, Value.category, Nat.reduceEqDiff, Option.toList, List.cons_append, List.nil_append, List.drop_succ_cons, List.drop_zero, ax_qq_eq, ax_t_1416, hO, mo_f, hal, ax_up_same]
  rw [ax_n_1416_17]
  -- behind the last token
  have fin : ∀ k a es1 so pl va v3 v4 v5 v6, t.1 ≤ k → k ≤ t.1 → zskip t k = zpl t a → zpre t a → es1 159 = .inr (11, mo_f th 0 (nI t.1) at0 fl cd nm rm on fh un g) → es1 161 = .inl (0, 1002, .inl so) → es1 162 = .inl (0, 1002, .inl pl) → es1 163 = .inl (3, 1002, .inr (.inl va)) → (∀ b, b < a → rB so pl va t b) → (∀ j, j ≠ 159 ∧ j ≠ 161 ∧ j ≠ 162 ∧ j ≠ 163 → es1 j = es j) → ax_W (d + 3) n sl 1416 [(1, .iload 2), (1, .aload 0), (3, .getfield 2828), (3, .if_icmp .ge 279), (1, .aload 0), (3, .getfield 2822), (1, .iload 2), (1, .iaload), (1, .istore 3), (1, .iload 3), (2, .iconst 10), (3, .if_icmp .eq 44), (1, .iload 3), (2, .iconst 32), (3, .if_icmp .ne 50)] 17 [some (.ref 159), some (.int (nI a)), some (.int (nI k)), v3, v4, v5, v6] [] n sl es1 (ax_qq n sl Q) := by
    intro k a es1 so pl va v3 v4 v5 v6 h1 h2 hsk hpre w0 w1 w2 w3 hB hf
    have hk : k = t.1 := by omega
    subst hk
    rw [zskip_end (Nat.le_refl _)] at hsk
    have h26 : zkd t a = 26 := zkd_end.mpr (by omega)
    have ha := zpre_le hpre
    have e0 : nI t.1 ≤ nI t.1 := kx_nn (by omega)
    have e1 : vp_in (nI a) 1002 := nI_in (by omega) (by decide)
    have e2 : (nI a).toNatClampNeg = a := nI_clamp (by omega)
    simp only [ax_W_cons, ax_I, ax_cmp, ax_ii, ax_ll, ax_li, ax_st1, ax_st2, ax_kl, ax_k2, ax_fit, ax_rtok, List.getElem?_cons_zero, List.getElem?_cons_succ, List.length_cons, List.length_nil, List.set_cons_zero, List.set_cons_succ, Nat.reduceAdd, Nat.reduceDiv, Nat.reduceMod, Nat.reduceMul, Nat.reduceLT, Nat.reduceLeDiff, Int32.reduceOfInt, Int64.reduceOfInt, true_and, and_true, and_self, true_or, or_true, false_implies, true_implies, not_false_eq_true, not_true_eq_false, Value.category, Nat.reduceEqDiff, Option.toList, List.cons_append, List.nil_append, List.drop_succ_cons, List.drop_zero, ax_qq_eq, ax_t_1416, ax_j_1416_279, ax_n_1416_279, w0, w1, w2, mo_f, hal, e0, e1, e2, ax_up_same, ax_up_ne, ne_eq]
    refine hQ _ (ax_up_same ..) ⟨upd so a 0, upd pl a (nI t.1), va, ?_, ?_, ?_, fun b hb => ?_⟩ (fun j hj => ?_)
    · rw [ax_up_ne _ _ (by decide), ax_up_ne _ _ (by decide), ax_up_ne _ _ (by decide), ax_up_same]
    · rw [ax_up_ne _ _ (by decide), ax_up_ne _ _ (by decide), ax_up_same]
    · rw [ax_up_ne _ _ (by decide), ax_up_ne _ _ (by decide), ax_up_ne _ _ (by decide), ax_up_ne _ _ (by decide), w3]
    · by_cases e : b = a
      · subst e
        refine ⟨?_, ?_, fun z => by omega, fun z => by omega, fun z => by omega⟩
        · rw [upd_same, h26]
          rfl
        · rw [upd_same, ← hsk]
      · have hba : b < a := by
          by_cases e3 : b < a
          · exact e3
          · exact absurd h26 (hb a (by omega))
        obtain ⟨q1, q2, q3⟩ := hB b hba
        exact ⟨by rw [upd_ne _ _ e]; exact q1, by rw [upd_ne _ _ e]; exact q2, q3⟩
    · rw [ax_up_ne _ _ hj.1, ax_up_ne _ _ hj.1, ax_up_ne _ _ hj.2.2.1, ax_up_ne _ _ hj.2.1]
      exact hf j hj
  have L : ∀ f k a es1 so pl va v3 v4 v5 v6, t.1 - k ≤ f → k ≤ t.1 → zskip t k = zpl t a → zpre t a → es1 159 = .inr (11, mo_f th 0 (nI t.1) at0 fl cd nm rm on fh un g) → es1 161 = .inl (0, 1002, .inl so) → es1 162 = .inl (0, 1002, .inl pl) → es1 163 = .inl (3, 1002, .inr (.inl va)) → (∀ b, b < a → rB so pl va t b) → (∀ j, j ≠ 159 ∧ j ≠ 161 ∧ j ≠ 162 ∧ j ≠ 163 → es1 j = es j) → ax_W (d + 3) n sl 1416 [(1, .iload 2), (1, .aload 0), (3, .getfield 2828), (3, .if_icmp .ge 279), (1, .aload 0), (3, .getfield 2822), (1, .iload 2), (1, .iaload), (1, .istore 3), (1, .iload 3), (2, .iconst 10), (3, .if_icmp .eq 44), (1, .iload 3), (2, .iconst 32), (3, .if_icmp .ne 50)] 17 [some (.ref 159), some (.int (nI a)), some (.int (nI k)), v3, v4, v5, v6] [] n sl es1 (ax_qq n sl Q) := by
    intro f
    induction f with
    | zero =>
      intro k a es1 so pl va v3 v4 v5 v6 h1
      exact fin k a es1 so pl va v3 v4 v5 v6 (by omega)
    | succ f ih =>
      intro k a es1 so pl va v3 v4 v5 v6 h1 h2 hsk hpre w0 w1 w2 w3 hB hf
      by_cases hk : t.1 ≤ k
      · exact fin k a es1 so pl va v3 v4 v5 v6 hk h2 hsk hpre w0 w1 w2 w3 hB hf
      have hk : k < t.1 := by omega
      have e0 : ¬ nI t.1 ≤ nI k := nI_ge hk (by omega)
      have tp1' : es1 160 = .inl (0, 1000, .inl tp) := (hf 160 (by decide)).trans tp1
      have e1 : vp_in (nI k) 1000 := nI_in (by omega) (by decide)
      have e2 : (nI k).toNatClampNeg = k := nI_clamp (by omega)
      have e3 := tp2 k hk
      have e4 : nI k + 1 = nI (k + 1) := (nI_succ k).symm
      have hb := zT_lt ht hk
      have q1 : (nI (t.2 k) = 10) = (t.2 k = 10) := propext ⟨fun z => kn_inj (b := 10) (by omega) (by decide) z, fun z => by rw [z]; rfl⟩
      have q2 : (nI (t.2 k) = 32) = (t.2 k = 32) := propext ⟨fun z => kn_inj (b := 32) (by omega) (by decide) z, fun z => by rw [z]; rfl⟩
      by_cases hBl : zBl (t.2 k) = true
      · have go : ax_J ax_W (d + 3) n sl 1416 44 [some (.ref 159), some (.int (nI a)), some (.int (nI k)), some (.int (nI (t.2 k))), v4, v5, v6] [] n sl es1 (ax_qq n sl Q) := by
          simp only [ax_W_cons, ax_I, ax_cmp, ax_ii, ax_ll, ax_li, ax_st1, ax_st2, ax_kl, ax_k2, ax_fit, ax_rtok, List.getElem?_cons_zero, List.getElem?_cons_succ, List.length_cons, List.length_nil, List.set_cons_zero, List.set_cons_succ, Nat.reduceAdd, Nat.reduceDiv, Nat.reduceMod, Nat.reduceMul, Nat.reduceLT, Nat.reduceLeDiff, Int32.reduceOfInt, Int64.reduceOfInt, true_and, and_true, and_self, true_or, or_true, false_implies, true_implies, not_false_eq_true, not_true_eq_false, Value.category, Nat.reduceEqDiff, Option.toList, List.cons_append, List.nil_append, List.drop_succ_cons, List.drop_zero, ax_qq_eq, ax_t_1416, ax_j_1416_44, ax_n_1416_44, e4]
          rw [ax_j_1416_17]
          exact ih (k + 1) a es1 so pl va _ _ _ _ (by omega) (by omega) (by rw [zskip_bl hk hBl]; exact hsk) hpre w0 w1 w2 w3 hB hf
        unfold zBl at hBl
        rw [decide_eq_true_eq] at hBl
        by_cases h10 : t.2 k = 10
        · have z10 : nI (t.2 k) = 10 := by rw [h10]; rfl
          rw [z10] at go
          simp only [ax_W_cons, ax_I, ax_cmp, ax_ii, ax_ll, ax_li, ax_st1, ax_st2, ax_kl, ax_k2, ax_fit, ax_rtok, List.getElem?_cons_zero, List.getElem?_cons_succ, List.length_cons, List.length_nil, List.set_cons_zero, List.set_cons_succ, Nat.reduceAdd, Nat.reduceDiv, Nat.reduceMod, Nat.reduceMul, Nat.reduceLT, Nat.reduceLeDiff, Int32.reduceOfInt, Int64.reduceOfInt, true_and, and_true, and_self, true_or, or_true, false_implies, true_implies, not_false_eq_true, not_true_eq_false, Value.category, Nat.reduceEqDiff, Option.toList, List.cons_append, List.nil_append, List.drop_succ_cons, List.drop_zero, ax_qq_eq, ax_t_1416, w0, tp1', mo_f, hal, e0, e1, e2, e3, z10]
          exact go
        · have h32 : t.2 k = 32 := by omega
          have z32 : nI (t.2 k) = 32 := by rw [h32]; rfl
          have z10 : ¬ (32 : Int32) = 10 := by decide
          rw [z32, ax_j_1416_44, ← ax_n_1416_44] at go
          simp only [ax_W_cons, ax_I, ax_cmp, ax_ii, ax_ll, ax_li, ax_st1, ax_st2, ax_kl, ax_k2, ax_fit, ax_rtok, List.getElem?_cons_zero, List.getElem?_cons_succ, List.length_cons, List.length_nil, List.set_cons_zero, List.set_cons_succ, Nat.reduceAdd, Nat.reduceDiv, Nat.reduceMod, Nat.reduceMul, Nat.reduceLT, Nat.reduceLeDiff, Int32.reduceOfInt, Int64.reduceOfInt, true_and, and_true, and_self, true_or, or_true, false_implies, true_implies, not_false_eq_true, not_true_eq_false, Value.category, Nat.reduceEqDiff, Option.toList, List.cons_append, List.nil_append, List.drop_succ_cons, List.drop_zero, ax_qq_eq, ax_t_1416, w0, tp1', mo_f, hal, e0, e1, e2, e3, z32, z10]
          exact go
      have hnb : zBl (t.2 k) = false := by simpa using hBl
      rw [zskip_at hnb] at hsk
      unfold zBl at hBl
      rw [decide_eq_true_eq] at hBl
      have h10 : ¬ t.2 k = 10 := fun z => hBl (Or.inl z)
      have h32 : ¬ t.2 k = 32 := fun z => hBl (Or.inr z)
      have hne : ¬ zkd t a = 26 := fun z => by
        have := zkd_end.mp z
        omega
      have hpre1 : zpre t (a + 1) := zpre_r hpre (fun b h1 h2 => by rw [show b = a by omega]; exact hne)
      have ha := zpre_le hpre1
      have a1 : vp_in (nI a) 1002 := nI_in (by omega) (by decide)
      have a2 : (nI a).toNatClampNeg = a := nI_clamp (by omega)
      have a4 : nI a + 1 = nI (a + 1) := (nI_succ a).symm
      have hkd : zkd t a = zkind t k := by unfold zkd; rw [← hsk]
      have hwd : zwd t a = zwr t k (zend t zL k - k) := by unfold zwd; rw [← hsk]
      have hnb' : znb t a = zv10 t k (zend t zD k - k) := by unfold znb; rw [← hsk]
      have hpos : zpos t (a + 1) = znx t k := by rw [hsk]; rfl
      obtain ⟨es2, he2⟩ : ∃ x, x = ax_up es1 162 (.inl (0, 1002, .inl (upd pl a (nI k)))) := ⟨_, rfl⟩
      have y2 : es2 162 = .inl (0, 1002, .inl (upd pl a (nI k))) := by rw [he2]; exact ax_up_same ..
      have g2 : ∀ j, j ≠ 162 → es2 j = es1 j := fun j hj => by rw [he2]; exact ax_up_ne _ _ hj
      have y0 := (g2 159 (by decide)).trans w0
      have y1 := (g2 161 (by decide)).trans w1
      have y3 := (g2 163 (by decide)).trans w3
      have y160 := (g2 160 (by decide)).trans tp1'
      -- the row's end
      have nxt : ∀ (k' x : Nat) (v : Int64) v3 v4, znx t k = k' → x = zsrt (zkd t a) → (zkd t a ≤ 24 → v = nL (zv37 (zwd t a))) → (zkd t a = 25 → v = nL (znb t a)) → (28 ≤ zkd t a → v = nL (zkd t a)) → ax_J ax_W (d + 3) n sl 1416 265 [some (.ref 159), some (.int (nI a)), some (.int (nI k')), v3, v4, some (.long v), none] [] n sl (ax_up es2 161 (.inl (0, 1002, .inl (upd so a (nI x))))) (ax_qq n sl Q) := by
        intro k' x v v3 v4 hz hx i1 i2 i3
        have hz2 := znx_gt hk
        have hz3 := (znx_le (t := t) h2).2
        have y0' : ∀ e, ax_up es2 161 e 159 = _ := fun e => (ax_up_ne es2 e (by decide)).trans y0
        have y3' : ∀ e, ax_up es2 161 e 163 = _ := fun e => (ax_up_ne es2 e (by decide)).trans y3
        simp only [ax_W_cons, ax_I, ax_cmp, ax_ii, ax_ll, ax_li, ax_st1, ax_st2, ax_kl, ax_k2, ax_fit, ax_rtok, List.getElem?_cons_zero, List.getElem?_cons_succ, List.length_cons, List.length_nil, List.set_cons_zero, List.set_cons_succ, Nat.reduceAdd, Nat.reduceDiv, Nat.reduceMod, Nat.reduceMul, Nat.reduceLT, Nat.reduceLeDiff, Int32.reduceOfInt, Int64.reduceOfInt, true_and, and_true, and_self, true_or, or_true, false_implies, true_implies, not_false_eq_true, not_true_eq_false, Value.category, Nat.reduceEqDiff, Option.toList, List.cons_append, List.nil_append, List.drop_succ_cons, List.drop_zero, ax_qq_eq, ax_t_1416, ax_j_1416_265, ax_n_1416_265, y0', y3', mo_f, hal, a1, a2, a4]
        rw [ax_j_1416_17]
        refine ih k' (a + 1) _ (upd so a (nI x)) (upd pl a (nI k)) (vp_updL va a v) _ _ _ _ (by omega) (by omega) ?_ hpre1 ?_ ?_ ?_ (ax_up_same ..) (fun b hb => ?_) (fun j hj => ?_)
        · unfold zpl
          rw [hpos, hz]
        · rw [ax_up_ne _ _ (by decide)]
          exact y0' _
        · rw [ax_up_ne _ _ (by decide), ax_up_same]
        · rw [ax_up_ne _ _ (by decide), ax_up_ne _ _ (by decide)]
          exact y2
        · by_cases e : b = a
          · subst e
            refine ⟨by rw [upd_same, hx], by rw [upd_same, ← hsk], fun z => by rw [updL_same]; exact i1 z, fun z => by rw [updL_same]; exact i2 z, fun z => by rw [updL_same]; exact i3 z⟩
          · obtain ⟨q1, q2, q3, q4, q5⟩ := hB b (by omega)
            exact ⟨by rw [upd_ne _ _ e]; exact q1, by rw [upd_ne _ _ e]; exact q2, fun z => by rw [updL_ne _ _ e]; exact q3 z, fun z => by rw [updL_ne _ _ e]; exact q4 z, fun z => by rw [updL_ne _ _ e]; exact q5 z⟩
        · rw [ax_up_ne _ _ hj.2.2.2, ax_up_ne _ _ hj.2.1, g2 j hj.2.2.1]
          exact hf j hj
      simp only [ax_W_cons, ax_I, ax_cmp, ax_ii, ax_ll, ax_li, ax_st1, ax_st2, ax_kl, ax_k2, ax_fit, ax_rtok, List.getElem?_cons_zero, List.getElem?_cons_succ, List.length_cons, List.length_nil, List.set_cons_zero, List.set_cons_succ, Nat.reduceAdd, Nat.reduceDiv, Nat.reduceMod, Nat.reduceMul, Nat.reduceLT, Nat.reduceLeDiff, Int32.reduceOfInt, Int64.reduceOfInt, true_and, and_true, and_self, true_or, or_true, false_implies, true_implies, not_false_eq_true, not_true_eq_false, Value.category, Nat.reduceEqDiff, Option.toList, List.cons_append, List.nil_append, List.drop_succ_cons, List.drop_zero, ax_qq_eq, ax_t_1416, ax_j_1416_50, ax_n_1416_50, w0, w2, tp1', mo_f, hal, e0, e1, e2, e3, a1, a2, q1, q2, h10, h32]
      rw [← he2]
      refine ax_inv_of (Nat.le_of_ble_eq_true rfl) (Nat.le_of_ble_eq_true rfl) (fun _ => absurd ‹_› (by decide)) (fun h => absurd h (by decide)) (Nat.le_refl _) (Nat.le_refl _) (mk_isL (by omega) ?_)
      by_cases hl : zL (t.2 k) = true
      · -- a word
        rw [hl]
        simp only [ax_W_cons, ax_I, ax_cmp, ax_ii, ax_ll, ax_li, ax_st1, ax_st2, ax_kl, ax_k2, ax_fit, ax_rtok, List.getElem?_cons_zero, List.getElem?_cons_succ, List.length_cons, List.length_nil, List.set_cons_zero, List.set_cons_succ, Nat.reduceAdd, Nat.reduceDiv, Nat.reduceMod, Nat.reduceMul, Nat.reduceLT, Nat.reduceLeDiff, Int32.reduceOfInt, Int64.reduceOfInt, true_and, and_true, and_self, true_or, or_true, false_implies, true_implies, not_false_eq_true, not_true_eq_false, Value.category, Nat.reduceEqDiff, Option.toList, List.cons_append, List.nil_append, List.drop_succ_cons, List.drop_zero, ax_qq_eq, ax_t_1416, kx_bt, c10]
        rw [ax_n_1416_70]
        have hnx : znx t k = zend t zL k := by
          unfold znx
          rw [if_neg (by omega), if_pos hl]
        have hkk : zkd t a = if 8 < zend t zL k - k then 27 else zwn (zwd t a) := by
          rw [hkd, hwd]
          unfold zkind
          rw [if_neg (by omega), if_pos hl]
        have hle := zend_le (t := t) (P := zL) (p := k) (by omega)
        have finL : ax_J ax_W (d + 3) n sl 1416 129 [some (.ref 159), some (.int (nI a)), some (.int (nI (zend t zL k))), some (.int (nI (t.2 k))), some (.int (nI k)), some (.long (nL (zv37 (zwr t k (min (zend t zL k - k) 8))))), none] [] n sl es2 (ax_qq n sl Q) := by
          have em : nI (zend t zL k) - nI k = nI (zend t zL k - k) := kn_sub (by omega)
          by_cases h8 : 8 < zend t zL k - k
          · rw [if_pos h8] at hkk
            have c8 : ¬ nI (zend t zL k - k) ≤ 8 := nI_ge (a := 8) h8 (by omega)
            have nx := nxt (zend t zL k) 4 (nL (zv37 (zwr t k (min (zend t zL k - k) 8)))) (some (.int (nI (t.2 k)))) (some (.int (nI k))) hnx (by rw [hkk]; rfl) (fun z => by omega) (fun z => by omega) (fun z => by omega)
            simp only [ax_W_cons, ax_I, ax_cmp, ax_ii, ax_ll, ax_li, ax_st1, ax_st2, ax_kl, ax_k2, ax_fit, ax_rtok, List.getElem?_cons_zero, List.getElem?_cons_succ, List.length_cons, List.length_nil, List.set_cons_zero, List.set_cons_succ, Nat.reduceAdd, Nat.reduceDiv, Nat.reduceMod, Nat.reduceMul, Nat.reduceLT, Nat.reduceLeDiff, Int32.reduceOfInt, Int64.reduceOfInt, true_and, and_true, and_self, true_or, or_true, false_implies, true_implies, not_false_eq_true, not_true_eq_false, Value.category, Nat.reduceEqDiff, Option.toList, List.cons_append, List.nil_append, List.drop_succ_cons, List.drop_zero, ax_qq_eq, ax_t_1416, ax_j_1416_129, ax_n_1416_129, ax_j_1416_148, ax_n_1416_148, y0, y1, mo_f, hal, em, c8, a1, a2]
            exact nx
          · rw [if_neg h8] at hkk
            have c8 : nI (zend t zL k - k) ≤ 8 := nI_le (b := 8) (by omega) (by decide)
            have hw24 := zwn_le (zwd t a)
            have nx := nxt (zend t zL k) 1 (nL (zv37 (zwr t k (min (zend t zL k - k) 8)))) (some (.int (nI (t.2 k)))) (some (.int (nI k))) hnx (by unfold zsrt; rw [if_pos (by omega)]) (fun z => by rw [hwd, Nat.min_eq_left (by omega)]) (fun z => by omega) (fun z => by omega)
            simp only [ax_W_cons, ax_I, ax_cmp, ax_ii, ax_ll, ax_li, ax_st1, ax_st2, ax_kl, ax_k2, ax_fit, ax_rtok, List.getElem?_cons_zero, List.getElem?_cons_succ, List.length_cons, List.length_nil, List.set_cons_zero, List.set_cons_succ, Nat.reduceAdd, Nat.reduceDiv, Nat.reduceMod, Nat.reduceMul, Nat.reduceLT, Nat.reduceLeDiff, Int32.reduceOfInt, Int64.reduceOfInt, true_and, and_true, and_self, true_or, or_true, false_implies, true_implies, not_false_eq_true, not_true_eq_false, Value.category, Nat.reduceEqDiff, Option.toList, List.cons_append, List.nil_append, List.drop_succ_cons, List.drop_zero, ax_qq_eq, ax_t_1416, ax_j_1416_129, ax_n_1416_129, ax_j_1416_147, ax_n_1416_147, ax_j_1416_148, ax_n_1416_148, y0, y1, mo_f, hal, em, c8, a1, a2]
            exact nx
        have LL := kx_down (k := t.1) (I := fun f i => k ≤ i → zrun t zL f i = zend t zL k → ax_W (d + 3) n sl 1416 [(1, .iload 2), (1, .aload 0), (3, .getfield 2828), (3, .if_icmp .ge 129), (1, .aload 0), (3, .getfield 2822), (1, .iload 2), (1, .iaload), (3, .invokeinterface 1412 4), (3, .ifCond .eq 129), (1, .iload 2), (2, .iload 4), (1, .isub), (2, .iconst 8), (3, .if_icmp .ge 119), (3, .goto_w 37), (2, .lload 5), (1, .lmul), (1, .aload 0), (3, .getfield 2822), (1, .iload 2), (1, .iaload), (3, .invokeinterface 1414 4), (1, .i2l), (1, .ladd), (3, .goto 121)] 70 [some (.ref 159), some (.int (nI a)), some (.int (nI i)), some (.int (nI (t.2 k))), some (.int (nI k)), some (.long (nL (zv37 (zwr t k (min (i - k) 8))))), none] [] n sl es2 (ax_qq n sl Q)) ?_ ?_ (t.1 - k) k (by omega)
        · have LL := LL (Nat.le_refl _) rfl
          rw [Nat.sub_self] at LL
          exact LL
        · intro hpi hz
          have e0 := kx_nn (k := t.1) (by omega)
          rw [zrun] at hz
          rw [← hz] at finL
          simp only [ax_W_cons, ax_I, ax_cmp, ax_ii, ax_ll, ax_li, ax_st1, ax_st2, ax_kl, ax_k2, ax_fit, ax_rtok, List.getElem?_cons_zero, List.getElem?_cons_succ, List.length_cons, List.length_nil, List.set_cons_zero, List.set_cons_succ, Nat.reduceAdd, Nat.reduceDiv, Nat.reduceMod, Nat.reduceMul, Nat.reduceLT, Nat.reduceLeDiff, Int32.reduceOfInt, Int64.reduceOfInt, true_and, and_true, and_self, true_or, or_true, false_implies, true_implies, not_false_eq_true, not_true_eq_false, Value.category, Nat.reduceEqDiff, Option.toList, List.cons_append, List.nil_append, List.drop_succ_cons, List.drop_zero, ax_qq_eq, ax_t_1416, y0, mo_f, hal, e0]
          exact finL
        · intro f2 i hi ihi hpi hz
          have b0 : ¬ nI t.1 ≤ nI i := nI_ge (by omega) (by omega)
          have b1 : vp_in (nI i) 1000 := nI_in (by omega) (by decide)
          have b2 : (nI i).toNatClampNeg = i := nI_clamp (by omega)
          have b3 := tp2 i (by omega)
          have b4 : nI i + 1 = nI (i + 1) := (nI_succ i).symm
          have hbi := zT_lt ht (j := i) (by omega)
          rw [zrun] at hz
          simp only [ax_W_cons, ax_I, ax_cmp, ax_ii, ax_ll, ax_li, ax_st1, ax_st2, ax_kl, ax_k2, ax_fit, ax_rtok, List.getElem?_cons_zero, List.getElem?_cons_succ, List.length_cons, List.length_nil, List.set_cons_zero, List.set_cons_succ, Nat.reduceAdd, Nat.reduceDiv, Nat.reduceMod, Nat.reduceMul, Nat.reduceLT, Nat.reduceLeDiff, Int32.reduceOfInt, Int64.reduceOfInt, true_and, and_true, and_self, true_or, or_true, false_implies, true_implies, not_false_eq_true, not_true_eq_false, Value.category, Nat.reduceEqDiff, Option.toList, List.cons_append, List.nil_append, List.drop_succ_cons, List.drop_zero, ax_qq_eq, ax_t_1416, y0, y160, mo_f, hal, b0, b1, b2, b3]
          refine ax_inv_of (Nat.le_of_ble_eq_true rfl) (Nat.le_of_ble_eq_true rfl) (fun _ => absurd ‹_› (by decide)) (fun h => absurd h (by decide)) (Nat.le_refl _) (Nat.le_refl _) (mk_isL (by omega) ?_)
          by_cases hli : zL (t.2 i) = true
          · rw [if_pos hli] at hz
            have ihi := ihi (by omega) hz
            have b5 : nI i - nI k = nI (i - k) := kn_sub (by omega)
            rw [hli]
            by_cases h8 : i - k < 8
            · have c8 : ¬ 8 ≤ nI (i - k) := nI_ge (b := 8) h8 (by decide)
              simp only [ax_W_cons, ax_I, ax_cmp, ax_ii, ax_ll, ax_li, ax_st1, ax_st2, ax_kl, ax_k2, ax_fit, ax_rtok, List.getElem?_cons_zero, List.getElem?_cons_succ, List.length_cons, List.length_nil, List.set_cons_zero, List.set_cons_succ, Nat.reduceAdd, Nat.reduceDiv, Nat.reduceMod, Nat.reduceMul, Nat.reduceLT, Nat.reduceLeDiff, Int32.reduceOfInt, Int64.reduceOfInt, true_and, and_true, and_self, true_or, or_true, false_implies, true_implies, not_false_eq_true, not_true_eq_false, Value.category, Nat.reduceEqDiff, Option.toList, List.cons_append, List.nil_append, List.drop_succ_cons, List.drop_zero, ax_qq_eq, ax_t_1416, kx_bt, c10, y0, y160, mo_f, hal, b1, b2, b3, b5, c8]
              refine ax_inv_of (Nat.le_of_ble_eq_true rfl) (Nat.le_of_ble_eq_true rfl) (fun _ => absurd ‹_› (by decide)) (fun h => absurd h (by decide)) (Nat.le_refl _) (Nat.le_refl _) (mk_rank (by omega) hli ?_)
              have b6 : (nI (t.2 i - 96)).toInt64 = nL (t.2 i - 96) := nI_64 (by omega)
              have b7 : ∀ V, (37 : Int64) * nL V + nL (t.2 i - 96) = nL (37 * V + (t.2 i - 96)) := fun V => by
                show nL 37 * nL V + _ = _
                rw [nL_mul, nL_add]
              rw [show min (i + 1 - k) 8 = min (i - k) 8 + 1 by omega, zwr, zv37, show k + min (i - k) 8 = i by omega] at ihi
              simp only [ax_W_cons, ax_I, ax_cmp, ax_ii, ax_ll, ax_li, ax_st1, ax_st2, ax_kl, ax_k2, ax_fit, ax_rtok, List.getElem?_cons_zero, List.getElem?_cons_succ, List.length_cons, List.length_nil, List.set_cons_zero, List.set_cons_succ, Nat.reduceAdd, Nat.reduceDiv, Nat.reduceMod, Nat.reduceMul, Nat.reduceLT, Nat.reduceLeDiff, Int32.reduceOfInt, Int64.reduceOfInt, true_and, and_true, and_self, true_or, or_true, false_implies, true_implies, not_false_eq_true, not_true_eq_false, Value.category, Nat.reduceEqDiff, Option.toList, List.cons_append, List.nil_append, List.drop_succ_cons, List.drop_zero, ax_qq_eq, ax_t_1416, ax_j_1416_121, ax_n_1416_121, b6, b7, b4]
              rw [ax_j_1416_70]
              exact ihi
            · have c8 : 8 ≤ nI (i - k) := nI_le (a := 8) (by omega) (by omega)
              rw [show min (i + 1 - k) 8 = min (i - k) 8 by omega] at ihi
              simp only [ax_W_cons, ax_I, ax_cmp, ax_ii, ax_ll, ax_li, ax_st1, ax_st2, ax_kl, ax_k2, ax_fit, ax_rtok, List.getElem?_cons_zero, List.getElem?_cons_succ, List.length_cons, List.length_nil, List.set_cons_zero, List.set_cons_succ, Nat.reduceAdd, Nat.reduceDiv, Nat.reduceMod, Nat.reduceMul, Nat.reduceLT, Nat.reduceLeDiff, Int32.reduceOfInt, Int64.reduceOfInt, true_and, and_true, and_self, true_or, or_true, false_implies, true_implies, not_false_eq_true, not_true_eq_false, Value.category, Nat.reduceEqDiff, Option.toList, List.cons_append, List.nil_append, List.drop_succ_cons, List.drop_zero, ax_qq_eq, ax_t_1416, ax_j_1416_119, ax_n_1416_119, ax_j_1416_121, ax_n_1416_121, kx_bt, c10, b5, c8, b4]
              rw [ax_j_1416_70]
              exact ihi
          · rw [if_neg hli] at hz
            have hli : zL (t.2 i) = false := by simpa using hli
            rw [hli]
            rw [← hz] at finL
            simp only [ax_W_cons, ax_I, ax_cmp, ax_ii, ax_ll, ax_li, ax_st1, ax_st2, ax_kl, ax_k2, ax_fit, ax_rtok, List.getElem?_cons_zero, List.getElem?_cons_succ, List.length_cons, List.length_nil, List.set_cons_zero, List.set_cons_succ, Nat.reduceAdd, Nat.reduceDiv, Nat.reduceMod, Nat.reduceMul, Nat.reduceLT, Nat.reduceLeDiff, Int32.reduceOfInt, Int64.reduceOfInt, true_and, and_true, and_self, true_or, or_true, false_implies, true_implies, not_false_eq_true, not_true_eq_false, Value.category, Nat.reduceEqDiff, Option.toList, List.cons_append, List.nil_append, List.drop_succ_cons, List.drop_zero, ax_qq_eq, ax_t_1416, kx_bf]
            exact finL
      have hl : zL (t.2 k) = false := by simpa using hl
      rw [hl]
      simp only [ax_W_cons, ax_I, ax_cmp, ax_ii, ax_ll, ax_li, ax_st1, ax_st2, ax_kl, ax_k2, ax_fit, ax_rtok, List.getElem?_cons_zero, List.getElem?_cons_succ, List.length_cons, List.length_nil, List.set_cons_zero, List.set_cons_succ, Nat.reduceAdd, Nat.reduceDiv, Nat.reduceMod, Nat.reduceMul, Nat.reduceLT, Nat.reduceLeDiff, Int32.reduceOfInt, Int64.reduceOfInt, true_and, and_true, and_self, true_or, or_true, false_implies, true_implies, not_false_eq_true, not_true_eq_false, Value.category, Nat.reduceEqDiff, Option.toList, List.cons_append, List.nil_append, List.drop_succ_cons, List.drop_zero, ax_qq_eq, ax_t_1416, ax_j_1416_152, ax_n_1416_152, kx_bf]
      refine ax_inv_of (Nat.le_of_ble_eq_true rfl) (Nat.le_of_ble_eq_true rfl) (fun _ => absurd ‹_› (by decide)) (fun h => absurd h (by decide)) (Nat.le_refl _) (Nat.le_refl _) (mk_isDg (by omega) ?_)
      by_cases hd : zD (t.2 k) = true
      · -- a number
        rw [hd]
        simp only [ax_W_cons, ax_I, ax_cmp, ax_ii, ax_ll, ax_li, ax_st1, ax_st2, ax_kl, ax_k2, ax_fit, ax_rtok, List.getElem?_cons_zero, List.getElem?_cons_succ, List.length_cons, List.length_nil, List.set_cons_zero, List.set_cons_succ, Nat.reduceAdd, Nat.reduceDiv, Nat.reduceMod, Nat.reduceMul, Nat.reduceLT, Nat.reduceLeDiff, Int32.reduceOfInt, Int64.reduceOfInt, true_and, and_true, and_self, true_or, or_true, false_implies, true_implies, not_false_eq_true, not_true_eq_false, Value.category, Nat.reduceEqDiff, Option.toList, List.cons_append, List.nil_append, List.drop_succ_cons, List.drop_zero, ax_qq_eq, ax_t_1416, kx_bt, c10]
        rw [ax_n_1416_159]
        have hnx : znx t k = zend t zD k := by
          unfold znx
          rw [if_neg (by omega), if_neg (by rw [hl]; decide), if_pos hd]
        have hkk : zkd t a = if 4 < zend t zD k - k then 27 else 25 := by
          rw [hkd]
          unfold zkind
          rw [if_neg (by omega), if_neg (by rw [hl]; decide), if_pos hd]
        have hle := zend_le (t := t) (P := zD) (p := k) (by omega)
        have finL : ax_J ax_W (d + 3) n sl 1416 218 [some (.ref 159), some (.int (nI a)), some (.int (nI (zend t zD k))), some (.int (nI (t.2 k))), some (.int (nI k)), some (.long (nL (zv10 t k (min (zend t zD k - k) 4)))), none] [] n sl es2 (ax_qq n sl Q) := by
          have em : nI (zend t zD k) - nI k = nI (zend t zD k - k) := kn_sub (by omega)
          by_cases h8 : 4 < zend t zD k - k
          · rw [if_pos h8] at hkk
            have c8 : ¬ nI (zend t zD k - k) ≤ 4 := nI_ge (a := 4) h8 (by omega)
            have nx := nxt (zend t zD k) 4 (nL (zv10 t k (min (zend t zD k - k) 4))) (some (.int (nI (t.2 k)))) (some (.int (nI k))) hnx (by rw [hkk]; rfl) (fun z => by omega) (fun z => by omega) (fun z => by omega)
            simp only [ax_W_cons, ax_I, ax_cmp, ax_ii, ax_ll, ax_li, ax_st1, ax_st2, ax_kl, ax_k2, ax_fit, ax_rtok, List.getElem?_cons_zero, List.getElem?_cons_succ, List.length_cons, List.length_nil, List.set_cons_zero, List.set_cons_succ, Nat.reduceAdd, Nat.reduceDiv, Nat.reduceMod, Nat.reduceMul, Nat.reduceLT, Nat.reduceLeDiff, Int32.reduceOfInt, Int64.reduceOfInt, true_and, and_true, and_self, true_or, or_true, false_implies, true_implies, not_false_eq_true, not_true_eq_false, Value.category, Nat.reduceEqDiff, Option.toList, List.cons_append, List.nil_append, List.drop_succ_cons, List.drop_zero, ax_qq_eq, ax_t_1416, ax_j_1416_218, ax_n_1416_218, ax_j_1416_236, ax_n_1416_236, y0, y1, mo_f, hal, em, c8, a1, a2]
            exact nx
          · rw [if_neg h8] at hkk
            have c8 : nI (zend t zD k - k) ≤ 4 := nI_le (b := 4) (by omega) (by decide)
            have nx := nxt (zend t zD k) 2 (nL (zv10 t k (min (zend t zD k - k) 4))) (some (.int (nI (t.2 k)))) (some (.int (nI k))) hnx (by rw [hkk]; rfl) (fun z => by omega) (fun z => by rw [hnb', Nat.min_eq_left (by omega)]) (fun z => by omega)
            simp only [ax_W_cons, ax_I, ax_cmp, ax_ii, ax_ll, ax_li, ax_st1, ax_st2, ax_kl, ax_k2, ax_fit, ax_rtok, List.getElem?_cons_zero, List.getElem?_cons_succ, List.length_cons, List.length_nil, List.set_cons_zero, List.set_cons_succ, Nat.reduceAdd, Nat.reduceDiv, Nat.reduceMod, Nat.reduceMul, Nat.reduceLT, Nat.reduceLeDiff, Int32.reduceOfInt, Int64.reduceOfInt, true_and, and_true, and_self, true_or, or_true, false_implies, true_implies, not_false_eq_true, not_true_eq_false, Value.category, Nat.reduceEqDiff, Option.toList, List.cons_append, List.nil_append, List.drop_succ_cons, List.drop_zero, ax_qq_eq, ax_t_1416, ax_j_1416_218, ax_n_1416_218, ax_j_1416_235, ax_n_1416_235, ax_j_1416_236, ax_n_1416_236, y0, y1, mo_f, hal, em, c8, a1, a2]
            exact nx
        have LL := kx_down (k := t.1) (I := fun f i => k ≤ i → zrun t zD f i = zend t zD k → ax_W (d + 3) n sl 1416 [(1, .iload 2), (1, .aload 0), (3, .getfield 2828), (3, .if_icmp .ge 218), (1, .aload 0), (3, .getfield 2822), (1, .iload 2), (1, .iaload), (3, .invokeinterface 1413 4), (3, .ifCond .eq 218), (1, .iload 2), (2, .iload 4), (1, .isub), (1, .iconst 4), (3, .if_icmp .ge 208), (3, .goto_w 10), (2, .lload 5), (1, .lmul), (1, .aload 0), (3, .getfield 2822), (1, .iload 2), (1, .iaload), (1, .i2l), (1, .ladd), (3, .goto_w 48), (1, .lsub), (3, .goto 210)] 159 [some (.ref 159), some (.int (nI a)), some (.int (nI i)), some (.int (nI (t.2 k))), some (.int (nI k)), some (.long (nL (zv10 t k (min (i - k) 4)))), none] [] n sl es2 (ax_qq n sl Q)) ?_ ?_ (t.1 - k) k (by omega)
        · have LL := LL (Nat.le_refl _) rfl
          rw [Nat.sub_self] at LL
          exact LL
        · intro hpi hz
          have e0 := kx_nn (k := t.1) (by omega)
          rw [zrun] at hz
          rw [← hz] at finL
          simp only [ax_W_cons, ax_I, ax_cmp, ax_ii, ax_ll, ax_li, ax_st1, ax_st2, ax_kl, ax_k2, ax_fit, ax_rtok, List.getElem?_cons_zero, List.getElem?_cons_succ, List.length_cons, List.length_nil, List.set_cons_zero, List.set_cons_succ, Nat.reduceAdd, Nat.reduceDiv, Nat.reduceMod, Nat.reduceMul, Nat.reduceLT, Nat.reduceLeDiff, Int32.reduceOfInt, Int64.reduceOfInt, true_and, and_true, and_self, true_or, or_true, false_implies, true_implies, not_false_eq_true, not_true_eq_false, Value.category, Nat.reduceEqDiff, Option.toList, List.cons_append, List.nil_append, List.drop_succ_cons, List.drop_zero, ax_qq_eq, ax_t_1416, y0, mo_f, hal, e0]
          exact finL
        · intro f2 i hi ihi hpi hz
          have b0 : ¬ nI t.1 ≤ nI i := nI_ge (by omega) (by omega)
          have b1 : vp_in (nI i) 1000 := nI_in (by omega) (by decide)
          have b2 : (nI i).toNatClampNeg = i := nI_clamp (by omega)
          have b3 := tp2 i (by omega)
          have b4 : nI i + 1 = nI (i + 1) := (nI_succ i).symm
          have hbi := zT_lt ht (j := i) (by omega)
          rw [zrun] at hz
          simp only [ax_W_cons, ax_I, ax_cmp, ax_ii, ax_ll, ax_li, ax_st1, ax_st2, ax_kl, ax_k2, ax_fit, ax_rtok, List.getElem?_cons_zero, List.getElem?_cons_succ, List.length_cons, List.length_nil, List.set_cons_zero, List.set_cons_succ, Nat.reduceAdd, Nat.reduceDiv, Nat.reduceMod, Nat.reduceMul, Nat.reduceLT, Nat.reduceLeDiff, Int32.reduceOfInt, Int64.reduceOfInt, true_and, and_true, and_self, true_or, or_true, false_implies, true_implies, not_false_eq_true, not_true_eq_false, Value.category, Nat.reduceEqDiff, Option.toList, List.cons_append, List.nil_append, List.drop_succ_cons, List.drop_zero, ax_qq_eq, ax_t_1416, y0, y160, mo_f, hal, b0, b1, b2, b3]
          refine ax_inv_of (Nat.le_of_ble_eq_true rfl) (Nat.le_of_ble_eq_true rfl) (fun _ => absurd ‹_› (by decide)) (fun h => absurd h (by decide)) (Nat.le_refl _) (Nat.le_refl _) (mk_isDg (by omega) ?_)
          by_cases hli : zD (t.2 i) = true
          · rw [if_pos hli] at hz
            have ihi := ihi (by omega) hz
            have b5 : nI i - nI k = nI (i - k) := kn_sub (by omega)
            have b48 : 48 ≤ t.2 i := by
              unfold zD at hli
              rw [decide_eq_true_eq] at hli
              omega
            rw [hli]
            by_cases h8 : i - k < 4
            · have c8 : ¬ 4 ≤ nI (i - k) := nI_ge (b := 4) h8 (by decide)
              have b6 : (nI (t.2 i)).toInt64 = nL (t.2 i) := nI_64 (by omega)
              have b7 : ∀ V, (10 : Int64) * nL V + nL (t.2 i) - 48 = nL (V * 10 + (t.2 i - 48)) := fun V => by
                show nL 10 * nL V + _ - nL 48 = _
                rw [nL_mul, nL_add, nL_sub (by omega)]
                congr 1
                omega
              rw [show min (i + 1 - k) 4 = min (i - k) 4 + 1 by omega, zv10, show k + min (i - k) 4 = i by omega] at ihi
              simp only [ax_W_cons, ax_I, ax_cmp, ax_ii, ax_ll, ax_li, ax_st1, ax_st2, ax_kl, ax_k2, ax_fit, ax_rtok, List.getElem?_cons_zero, List.getElem?_cons_succ, List.length_cons, List.length_nil, List.set_cons_zero, List.set_cons_succ, Nat.reduceAdd, Nat.reduceDiv, Nat.reduceMod, Nat.reduceMul, Nat.reduceLT, Nat.reduceLeDiff, Int32.reduceOfInt, Int64.reduceOfInt, true_and, and_true, and_self, true_or, or_true, false_implies, true_implies, not_false_eq_true, not_true_eq_false, Value.category, Nat.reduceEqDiff, Option.toList, List.cons_append, List.nil_append, List.drop_succ_cons, List.drop_zero, ax_qq_eq, ax_t_1416, ax_j_1416_210, ax_n_1416_210, kx_bt, c10, y0, y160, mo_f, hal, b1, b2, b3, b5, c8, b6, b7, b4]
              rw [ax_j_1416_159]
              exact ihi
            · have c8 : 4 ≤ nI (i - k) := nI_le (a := 4) (by omega) (by omega)
              rw [show min (i + 1 - k) 4 = min (i - k) 4 by omega] at ihi
              simp only [ax_W_cons, ax_I, ax_cmp, ax_ii, ax_ll, ax_li, ax_st1, ax_st2, ax_kl, ax_k2, ax_fit, ax_rtok, List.getElem?_cons_zero, List.getElem?_cons_succ, List.length_cons, List.length_nil, List.set_cons_zero, List.set_cons_succ, Nat.reduceAdd, Nat.reduceDiv, Nat.reduceMod, Nat.reduceMul, Nat.reduceLT, Nat.reduceLeDiff, Int32.reduceOfInt, Int64.reduceOfInt, true_and, and_true, and_self, true_or, or_true, false_implies, true_implies, not_false_eq_true, not_true_eq_false, Value.category, Nat.reduceEqDiff, Option.toList, List.cons_append, List.nil_append, List.drop_succ_cons, List.drop_zero, ax_qq_eq, ax_t_1416, ax_j_1416_208, ax_n_1416_208, ax_j_1416_210, ax_n_1416_210, kx_bt, c10, b5, c8, b4]
              rw [ax_j_1416_159]
              exact ihi
          · rw [if_neg hli] at hz
            have hli : zD (t.2 i) = false := by simpa using hli
            rw [hli]
            rw [← hz] at finL
            simp only [ax_W_cons, ax_I, ax_cmp, ax_ii, ax_ll, ax_li, ax_st1, ax_st2, ax_kl, ax_k2, ax_fit, ax_rtok, List.getElem?_cons_zero, List.getElem?_cons_succ, List.length_cons, List.length_nil, List.set_cons_zero, List.set_cons_succ, Nat.reduceAdd, Nat.reduceDiv, Nat.reduceMod, Nat.reduceMul, Nat.reduceLT, Nat.reduceLeDiff, Int32.reduceOfInt, Int64.reduceOfInt, true_and, and_true, and_self, true_or, or_true, false_implies, true_implies, not_false_eq_true, not_true_eq_false, Value.category, Nat.reduceEqDiff, Option.toList, List.cons_append, List.nil_append, List.drop_succ_cons, List.drop_zero, ax_qq_eq, ax_t_1416, kx_bf]
            exact finL
      have hd : zD (t.2 k) = false := by simpa using hd
      rw [hd]
      have hnx : znx t k = k + 1 := by
        unfold znx
        rw [if_neg (by omega), if_neg (by rw [hl]; decide), if_neg (by rw [hd]; decide)]
      have hkk : zkd t a = if zSn (t.2 k) = true then t.2 k else 27 := by
        rw [hkd]
        unfold zkind
        rw [if_neg (by omega), if_neg (by rw [hl]; decide), if_neg (by rw [hd]; decide)]
      have b6 : (nI (t.2 k)).toInt64 = nL (t.2 k) := nI_64 (by omega)
      simp only [ax_W_cons, ax_I, ax_cmp, ax_ii, ax_ll, ax_li, ax_st1, ax_st2, ax_kl, ax_k2, ax_fit, ax_rtok, List.getElem?_cons_zero, List.getElem?_cons_succ, List.length_cons, List.length_nil, List.set_cons_zero, List.set_cons_succ, Nat.reduceAdd, Nat.reduceDiv, Nat.reduceMod, Nat.reduceMul, Nat.reduceLT, Nat.reduceLeDiff, Int32.reduceOfInt, Int64.reduceOfInt, true_and, and_true, and_self, true_or, or_true, false_implies, true_implies, not_false_eq_true, not_true_eq_false, Value.category, Nat.reduceEqDiff, Option.toList, List.cons_append, List.nil_append, List.drop_succ_cons, List.drop_zero, ax_qq_eq, ax_t_1416, ax_j_1416_240, ax_n_1416_240, kx_bf, y0, mo_f, hal, b6]
      refine ax_inv_of (Nat.le_of_ble_eq_true rfl) (Nat.le_of_ble_eq_true rfl) (fun _ => absurd ‹_› (by decide)) (fun h => absurd h (by decide)) (Nat.le_refl _) (Nat.le_refl _) (mk_isSn (by omega) ?_)
      by_cases hs : zSn (t.2 k) = true
      · rw [if_pos hs] at hkk
        have h28 : 28 ≤ t.2 k := by
          unfold zSn at hs
          rw [decide_eq_true_eq] at hs
          omega
        have nx := nxt (k + 1) 3 (nL (t.2 k)) (some (.int (nI (t.2 k)))) (some (.int (nI k))) hnx (by rw [hkk]; unfold zsrt; rw [if_neg (by omega), if_neg (by omega), if_neg (by omega), if_neg (by omega)]) (fun z => by omega) (fun z => by omega) (fun z => by rw [hkk])
        rw [hs]
        rw [ax_j_1416_265, ← ax_n_1416_265] at nx
        simp only [ax_W_cons, ax_I, ax_cmp, ax_ii, ax_ll, ax_li, ax_st1, ax_st2, ax_kl, ax_k2, ax_fit, ax_rtok, List.getElem?_cons_zero, List.getElem?_cons_succ, List.length_cons, List.length_nil, List.set_cons_zero, List.set_cons_succ, Nat.reduceAdd, Nat.reduceDiv, Nat.reduceMod, Nat.reduceMul, Nat.reduceLT, Nat.reduceLeDiff, Int32.reduceOfInt, Int64.reduceOfInt, true_and, and_true, and_self, true_or, or_true, false_implies, true_implies, not_false_eq_true, not_true_eq_false, Value.category, Nat.reduceEqDiff, Option.toList, List.cons_append, List.nil_append, List.drop_succ_cons, List.drop_zero, ax_qq_eq, ax_t_1416, ax_j_1416_261, ax_n_1416_261, kx_bt, c10, y1, hal, a1, a2, e4]
        exact nx
      · rw [if_neg hs] at hkk
        have hs : zSn (t.2 k) = false := by simpa using hs
        have nx := nxt (k + 1) 4 (nL (t.2 k)) (some (.int (nI (t.2 k)))) (some (.int (nI k))) hnx (by rw [hkk]; rfl) (fun z => by omega) (fun z => by omega) (fun z => by omega)
        rw [hs]
        rw [ax_j_1416_265, ← ax_n_1416_265] at nx
        simp only [ax_W_cons, ax_I, ax_cmp, ax_ii, ax_ll, ax_li, ax_st1, ax_st2, ax_kl, ax_k2, ax_fit, ax_rtok, List.getElem?_cons_zero, List.getElem?_cons_succ, List.length_cons, List.length_nil, List.set_cons_zero, List.set_cons_succ, Nat.reduceAdd, Nat.reduceDiv, Nat.reduceMod, Nat.reduceMul, Nat.reduceLT, Nat.reduceLeDiff, Int32.reduceOfInt, Int64.reduceOfInt, true_and, and_true, and_self, true_or, or_true, false_implies, true_implies, not_false_eq_true, not_true_eq_false, Value.category, Nat.reduceEqDiff, Option.toList, List.cons_append, List.nil_append, List.drop_succ_cons, List.drop_zero, ax_qq_eq, ax_t_1416, ax_j_1416_260, ax_n_1416_260, ax_j_1416_261, ax_n_1416_261, kx_bf, y1, hal, a1, a2, e4]
        exact nx
  refine L t.1 0 0 _ so0 pl0 va0 none none none none (by omega) (by omega) rfl (fun b hb => by omega) (ax_up_same ..) ?_ ?_ ?_ (fun b hb => by omega) (fun j hj => ?_)
  · rw [ax_up_ne _ _ (by decide), ax_up_ne _ _ (by decide)]
    exact s1
  · rw [ax_up_ne _ _ (by decide), ax_up_ne _ _ (by decide)]
    exact s2
  · rw [ax_up_ne _ _ (by decide), ax_up_ne _ _ (by decide)]
    exact s3
  · rw [ax_up_ne _ _ hj.1, ax_up_ne _ _ hj.1]
end TT
