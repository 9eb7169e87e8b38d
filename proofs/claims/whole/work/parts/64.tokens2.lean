/-! the class: its tokens -/
def zst : List Nat := [99, 101, 108, 108, 115, 32, 99, 111, 117, 114, 116, 105, 101, 114, 32, 97, 116, 32, 108, 111, 121, 97, 108, 32, 104, 101, 97, 116, 32, 102, 97, 100, 101, 115, 32, 114, 101, 97, 100, 115, 32, 116, 111, 117, 99, 104, 32, 98, 114, 101, 97, 116, 104, 101, 32, 102, 111, 114, 107, 32, 116, 117, 114, 110, 32, 99, 104, 97, 110, 103, 101, 32, 98, 101, 97, 116, 32, 112, 108, 97, 105, 110, 32, 115, 112, 111, 111, 110, 32, 99, 104, 105, 108, 100, 32, 109, 97, 105, 100, 32, 110, 111, 116, 32, 97, 110, 100, 32, 111, 114, 32, 119, 97, 118, 101, 32, 119, 97, 114, 109, 32, 116, 105, 109, 101, 32, 104, 101, 97, 114, 116, 32]
theorem zst_len : ax_words.length = 132 := by decide +kernel
theorem zst_all : ∀ i : Fin 132, (ax_words.toList.getD i.val ' ').toNat = zst.getD i.val 0 := by decide +kernel
def zwst : Nat → Nat × Nat
  | 0 => (0, 0)
  | i + 1 => if zst.getD i 0 = 32 then (0, (zwst i).2 + 1) else ((zwst i).1 * 256 + zst.getD i 0, (zwst i).2)
def zscan (nm : Nat) : Nat → Nat → Nat
  | 0, _ => 24
  | f + 1, i => if zst.getD i 0 = 32 then (if (zwst i).1 = nm then (zwst i).2 else zscan nm f (i + 1)) else zscan nm f (i + 1)
def zfi2 (nm : Nat) : List Nat → Nat → Nat
  | [], _ => 24
  | x :: l, k => if x = nm then k else zfi2 nm l (k + 1)
set_option maxRecDepth 100000 in
theorem zscan_fi (nm : Nat) : zscan nm 132 0 = zfi2 nm (zW.map zv256) 0 := rfl
theorem zW_ok : ∀ x ∈ zW, ∀ c ∈ x, 97 ≤ c ∧ c ≤ 122 := by decide
theorem zfi2_fi {w : List Nat} (hw : ∀ c ∈ w, 97 ≤ c ∧ c ≤ 122) : ∀ (l : List (List Nat)) k, (∀ x ∈ l, ∀ c ∈ x, 97 ≤ c ∧ c ≤ 122) → k + l.length = 24 → zfi2 (zv256 w) (l.map zv256) k = zfi1 w l k
  | [], k, _, h => by
    show 24 = k
    simpa using h.symm
  | x :: l, k, hl, h => by
    have ih := zfi2_fi hw l (k + 1) (fun y hy => hl y (List.mem_cons_of_mem _ hy)) (by rw [List.length_cons] at h; omega)
    rw [List.map_cons, zfi2, zfi1, ih]
    by_cases e : x = w
    · rw [if_pos e, if_pos (by rw [e])]
    · rw [if_neg e, if_neg (fun z => e (zv256_inj x w (hl x List.mem_cons_self) hw z))]
theorem zscan_wn {w : List Nat} (hw : ∀ c ∈ w, 97 ≤ c ∧ c ≤ 122) : zscan (zv256 w) 132 0 = zwn w := by
  rw [zscan_fi, zfi2_fi hw zW 0 zW_ok rfl]
  rfl
theorem nL_shl8 {w c : Nat} (hw : w < 2 ^ 56) (hc : c < 256) : nL w <<< ((8 : Int32).toInt64 &&& 63) ||| nL c = nL (w * 256 + c) := by
  apply Int64.toBitVec_inj.mp
  have h8 : ((8 : Int32).toInt64 &&& 63).toBitVec.smod 64 = BitVec.ofNat 64 8 := by decide
  show BitVec.ofNat 64 w <<< (((8 : Int32).toInt64 &&& 63).toBitVec.smod 64) ||| BitVec.ofNat 64 c = BitVec.ofNat 64 (w * 256 + c)
  rw [h8]
  apply BitVec.eq_of_toNat_eq
  simp only [BitVec.shiftLeft_eq', BitVec.toNat_or, BitVec.toNat_shiftLeft, BitVec.toNat_ofNat, Nat.shiftLeft_eq]
  rw [show 2 ^ (8 % 2 ^ 64) = 256 by decide, Nat.mod_eq_of_lt (show c < 2 ^ 64 by omega), Nat.mod_eq_of_lt (show w < 2 ^ 64 by omega), Nat.mod_eq_of_lt (show w * 256 < 2 ^ 64 by omega), Nat.mod_eq_of_lt (show w * 256 + c < 2 ^ 64 by omega)]
  have := Nat.two_pow_add_eq_or_of_lt (i := 8) (b := c) (by omega) w
  rw [show 2 ^ 8 = 256 from rfl, Nat.mul_comm] at this
  exact this.symm
theorem zcmp0 {x y : Int64} : (lg_cmp x y = 0) = (x = y) := propext (lg_cmp_eq x y)
theorem ax_j_1160_0 (d nb sb : Nat) (ls : ax_L) (st : List Value) (n sl : Nat) (es : ax_H) (Q : ax_Q) : ax_J ax_W d nb sb 1160 0 ls st n sl es Q = ax_W d nb sb 1160 [(1, .aload 0), (3, .getfield 2336), (1, .aload 0), (3, .getfield 2308), (3, .if_icmp .ge 52), (1, .aload 0), (3, .getfield 2306), (1, .aload 0), (3, .getfield 2336), (1, .baload), (2, .iconst 10), (3, .if_icmp .eq 39), (1, .aload 0), (3, .getfield 2306), (1, .aload 0), (3, .getfield 2336), (1, .baload), (2, .iconst 32), (3, .if_icmp .ne 52)] 0 ls st n sl es Q := ax_J_eq ax_b_1160_0 d nb sb ls st n sl es Q
/-- the signs of the tape, in the class -/
def xSg (es : ax_H) (t : zTp) : Prop := ∃ sg, es 2 = .inl (1, 1000, .inl sg) ∧ ∀ j, j < t.1 → sg j = nI (t.2 j)
def xTk (es : ax_H) (t : zTp) (a : Nat) (tk ft : Int32) : Prop := (∃ nb nm, kT0 es (nI t.1) (nI (zkd t a)) nb nm tk ft (nI (zpl t a)) (nI (zpos t (a + 1))) ∧ (zkd t a = 25 → nb = nI (znb t a)) ∧ (zkd t a ≤ 24 → nm = nL (zv256 (zwd t a)))) ∧ xSg es t
def xTn (es : ax_H) (t : zTp) (a : Nat) (tk ft : Int32) : Prop := (∃ kd nb nm pl, kT0 es (nI t.1) kd nb nm tk ft pl (nI (zpos t a))) ∧ xSg es t
theorem xTk_n {es : ax_H} {t : zTp} {a : Nat} {tk ft : Int32} (h : xTk es t a tk ft) : xTn es t (a + 1) tk ft := by
  obtain ⟨⟨nb, nm, h1, -⟩, h2⟩ := h
  exact ⟨⟨_, nb, nm, _, h1⟩, h2⟩
theorem xSg_fr {es es' : ax_H} {t : zTp} (h : xSg es t) (hf : es' 2 = es 2) : xSg es' t := by
  obtain ⟨sg, h1, h2⟩ := h
  exact ⟨sg, hf.trans h1, h2⟩
theorem zL_eq {b : Nat} (hb : b < 256) : zL b = kx_in (nI b) 97 122 := by
  have : ∀ b : Fin 256, zL b.val = kx_in (nI b.val) 97 122 := by decide +kernel
  exact this ⟨b, hb⟩
theorem zD_eq {b : Nat} (hb : b < 256) : zD b = kx_in (nI b) 48 57 := by
  have : ∀ b : Fin 256, zD b.val = kx_in (nI b.val) 48 57 := by decide +kernel
  exact this ⟨b, hb⟩
theorem zT_lt {t : zTp} (h : zT_ok t) {j : Nat} (hj : j < t.1) : t.2 j < 127 := by
  have := h.2 j hj
  unfold zsg at this
  simp at this
  omega
section TT
variable {d n sl : Nat} {es : ax_H} {t : zTp} {Q : Option Value → ax_H → Prop}
theorem ck_isLetter {b : Nat} (hb : b < 256) (hQ : Q (some (.int (kx_b (zL b)))) es) : ax_Mt d 1164 [.int (nI b)] n sl es Q := by
  rw [zL_eq hb] at hQ
  unfold kx_in at hQ
  refine ax_Mt_go (m := ax_m_9_12) (ls := [some (.int (nI b))]) rfl ax_b_1164_0 (Nat.le_of_ble_eq_true rfl) rfl ?_
  simp only [ax_W_cons, ax_I, ax_cmp, ax_ii, ax_ll, ax_li, ax_st1, ax_st2, ax_kl, ax_k2, ax_fit, ax_rtok, List.getElem?_cons_zero, List.getElem?_cons_succ, List.length_cons, List.length_nil, List.set_cons_zero, List.set_cons_succ, Nat.reduceAdd, Nat.reduceDiv, Nat.reduceMod, Nat.reduceMul, Nat.reduceLT, Nat.reduceLeDiff, Int32.reduceOfInt, Int64.reduceOfInt, true_and, and_true, and_self, true_or, or_true, false_implies, true_implies, not_false_eq_true, not_true_eq_false, Value.category, Nat.reduceEqDiff, Option.toList, List.cons_append, List.nil_append, List.drop_succ_cons, List.drop_zero, ax_qq_eq, ax_t_1164, ax_j_1164_16, ax_n_1164_16, ax_j_1164_17, ax_n_1164_17]
  refine ⟨fun h => ?_, fun h => ⟨fun h2 => ?_, fun h2 => ?_⟩⟩
  · rw [decide_eq_false (kx_lt_nle h), Bool.false_and] at hQ
    exact hQ
  · rw [decide_eq_false (kx_lt_nle h2), Bool.and_false] at hQ
    exact hQ
  · rw [kx_nlt] at h h2
    rw [decide_eq_true h, decide_eq_true h2] at hQ
    exact hQ
theorem ck_isDigit {b : Nat} (hb : b < 256) (hQ : Q (some (.int (kx_b (zD b)))) es) : ax_Mt d 1165 [.int (nI b)] n sl es Q := by
  rw [zD_eq hb] at hQ
  unfold kx_in at hQ
  refine ax_Mt_go (m := ax_m_9_13) (ls := [some (.int (nI b))]) rfl ax_b_1165_0 (Nat.le_of_ble_eq_true rfl) rfl ?_
  simp only [ax_W_cons, ax_I, ax_cmp, ax_ii, ax_ll, ax_li, ax_st1, ax_st2, ax_kl, ax_k2, ax_fit, ax_rtok, List.getElem?_cons_zero, List.getElem?_cons_succ, List.length_cons, List.length_nil, List.set_cons_zero, List.set_cons_succ, Nat.reduceAdd, Nat.reduceDiv, Nat.reduceMod, Nat.reduceMul, Nat.reduceLT, Nat.reduceLeDiff, Int32.reduceOfInt, Int64.reduceOfInt, true_and, and_true, and_self, true_or, or_true, false_implies, true_implies, not_false_eq_true, not_true_eq_false, Value.category, Nat.reduceEqDiff, Option.toList, List.cons_append, List.nil_append, List.drop_succ_cons, List.drop_zero, ax_qq_eq, ax_t_1165, ax_j_1165_16, ax_n_1165_16, ax_j_1165_17, ax_n_1165_17]
  refine ⟨fun h => ?_, fun h => ⟨fun h2 => ?_, fun h2 => ?_⟩⟩
  · rw [decide_eq_false (kx_lt_nle h), Bool.false_and] at hQ
    exact hQ
  · rw [decide_eq_false (kx_lt_nle h2), Bool.and_false] at hQ
    exact hQ
  · rw [kx_nlt] at h h2
    rw [decide_eq_true h, decide_eq_true h2] at hQ
    exact hQ
theorem ck_isTokenSign {b : Nat} (hb : b < 256) (hQ : Q (some (.int (kx_b (zSn b)))) es) : ax_Mt d 1166 [.int (nI b)] n sl es Q := by
  have n0 : ((0 : Int32) = 0 ∨ (0 : Int32) = 1) := Or.inl rfl
  have n1 : ((1 : Int32) = 0 ∨ (1 : Int32) = 1) := Or.inr rfl
  have hi : (nI b).toInt = b := nI_toInt (by omega)
  refine ax_Mt_go (m := ax_m_9_14) (ls := [some (.int (nI b))]) rfl ax_b_1166_0 (Nat.le_of_ble_eq_true rfl) rfl ?_
  simp only [ax_W_cons, ax_I, ax_cmp, ax_ii, ax_ll, ax_li, ax_st1, ax_st2, ax_kl, ax_k2, ax_fit, ax_rtok, List.getElem?_cons_zero, List.getElem?_cons_succ, List.length_cons, List.length_nil, List.set_cons_zero, List.set_cons_succ, Nat.reduceAdd, Nat.reduceDiv, Nat.reduceMod, Nat.reduceMul, Nat.reduceLT, Nat.reduceLeDiff, Int32.reduceOfInt, Int64.reduceOfInt, true_and, and_true, and_self, true_or, or_true, false_implies, true_implies, not_false_eq_true, not_true_eq_false, Value.category, Nat.reduceEqDiff, Option.toList, List.cons_append, List.nil_append, List.drop_succ_cons, List.drop_zero, ax_qq_eq, ax_t_1166, hi]
  by_cases h : (b : Int) < 40 ∨ 61 < (b : Int)
  · refine ⟨fun _ => ?_, fun h2 => absurd h h2⟩
    have e : zSn b = false := by
      unfold zSn
      simp
      omega
    rw [e] at hQ
    simp only [ax_W_cons, ax_I, ax_cmp, ax_ii, ax_ll, ax_li, ax_st1, ax_st2, ax_kl, ax_k2, ax_fit, ax_rtok, List.getElem?_cons_zero, List.getElem?_cons_succ, List.length_cons, List.length_nil, List.set_cons_zero, List.set_cons_succ, Nat.reduceAdd, Nat.reduceDiv, Nat.reduceMod, Nat.reduceMul, Nat.reduceLT, Nat.reduceLeDiff, Int32.reduceOfInt, Int64.reduceOfInt, true_and, and_true, and_self, true_or, or_true, false_implies, true_implies, not_false_eq_true, not_true_eq_false, Value.category, Nat.reduceEqDiff, Option.toList, List.cons_append, List.nil_append, List.drop_succ_cons, List.drop_zero, ax_qq_eq, ax_t_1166, ax_j_1166_106, ax_n_1166_106]
    exact hQ
  · refine ⟨fun h2 => absurd h2 h, fun _ => ?_⟩
    have hm : b = 40 ∨ b = 41 ∨ b = 42 ∨ b = 43 ∨ b = 44 ∨ b = 45 ∨ b = 46 ∨ b = 47 ∨ b = 48 ∨ b = 49 ∨ b = 50 ∨ b = 51 ∨ b = 52 ∨ b = 53 ∨ b = 54 ∨ b = 55 ∨ b = 56 ∨ b = 57 ∨ b = 58 ∨ b = 59 ∨ b = 60 ∨ b = 61 := by omega
    have yes : zSn b = true → ax_J ax_W d n sl 1166 104 [some (.int (nI b))] [] n sl es (ax_qq n sl Q) := by
      intro e
      rw [e] at hQ
      simp only [ax_W_cons, ax_I, ax_cmp, ax_ii, ax_ll, ax_li, ax_st1, ax_st2, ax_kl, ax_k2, ax_fit, ax_rtok, List.getElem?_cons_zero, List.getElem?_cons_succ, List.length_cons, List.length_nil, List.set_cons_zero, List.set_cons_succ, Nat.reduceAdd, Nat.reduceDiv, Nat.reduceMod, Nat.reduceMul, Nat.reduceLT, Nat.reduceLeDiff, Int32.reduceOfInt, Int64.reduceOfInt, true_and, and_true, and_self, true_or, or_true, false_implies, true_implies, not_false_eq_true, not_true_eq_false, Value.category, Nat.reduceEqDiff, Option.toList, List.cons_append, List.nil_append, List.drop_succ_cons, List.drop_zero, ax_qq_eq, ax_t_1166, ax_j_1166_104, ax_n_1166_104]
      exact hQ
    have no : zSn b = false → ax_J ax_W d n sl 1166 106 [some (.int (nI b))] [] n sl es (ax_qq n sl Q) := by
      intro e
      rw [e] at hQ
      simp only [ax_W_cons, ax_I, ax_cmp, ax_ii, ax_ll, ax_li, ax_st1, ax_st2, ax_kl, ax_k2, ax_fit, ax_rtok, List.getElem?_cons_zero, List.getElem?_cons_succ, List.length_cons, List.length_nil, List.set_cons_zero, List.set_cons_succ, Nat.reduceAdd, Nat.reduceDiv, Nat.reduceMod, Nat.reduceMul, Nat.reduceLT, Nat.reduceLeDiff, Int32.reduceOfInt, Int64.reduceOfInt, true_and, and_true, and_self, true_or, or_true, false_implies, true_implies, not_false_eq_true, not_true_eq_false, Value.category, Nat.reduceEqDiff, Option.toList, List.cons_append, List.nil_append, List.drop_succ_cons, List.drop_zero, ax_qq_eq, ax_t_1166, ax_j_1166_106, ax_n_1166_106]
      exact hQ
    rcases hm with rfl | rfl | rfl | rfl | rfl | rfl | rfl | rfl | rfl | rfl | rfl | rfl | rfl | rfl | rfl | rfl | rfl | rfl | rfl | rfl | rfl | rfl <;> first | exact yes (by decide) | exact no (by decide)
theorem zws_bd : ∀ i : Fin 133, (zwst i.val).1 < 2 ^ 64 ∧ (zwst i.val).2 ≤ 24 ∧ (i.val < 132 → zst.getD i.val 0 < 128 ∧ (¬ zst.getD i.val 0 = 32 → (zwst i.val).1 < 2 ^ 56) ∧ (zst.getD i.val 0 = 32 → (zwst i.val).1 < 2 ^ 63)) := by decide +kernel
theorem ck_wordNumber (hal : ax_al n = 178) {tl kd nb tk ft pl nx : Int32} {w : List Nat} (hw : zWd w) (h : kT0 es tl kd nb (nL (zv256 w)) tk ft pl nx) (hQ : Q (some (.int (nI (zwn w)))) es) : ax_Mt (d + 8) 1163 [.ref 1] n sl es Q := by
  unfold kT0 at h
  have hv := zv256_63 hw
  rw [← zscan_wn hw.2] at hQ
  generalize hV : zv256 w = V at hQ h hv
  have d8 : 8 ≤ d + 8 := by omega
  refine ax_Mt_go (m := ax_m_9_11) (ls := [some (.ref 1), none, none, none, none, none]) rfl ax_b_1163_0 (Nat.le_of_ble_eq_true rfl) rfl ?_
  simp only [ax_W_cons, ax_I, ax_cmp, ax_ii, ax_ll, ax_li, ax_st1, ax_st2, ax_kl, ax_k2, ax_fit, ax_rtok, List.getElem?_cons_zero, List.getElem?_cons_succ, List.length_cons, List.length_nil, List.set_cons_zero, List.set_cons_succ, Nat.reduceAdd, Nat.reduceDiv, Nat.reduceMod, Nat.reduceMul, Nat.reduceLT, Nat.reduceLeDiff, Int32.reduceOfInt, Int64.reduceOfInt, true_and, and_true, and_self, true_or, or_true, false_implies, true_implies, not_false_eq_true, not_true_eq_false, Value.category, Nat.reduceEqDiff, Option.toList, List.cons_append, List.nil_append, List.drop_succ_cons, List.drop_zero, ax_qq_eq, ax_t_1163]
  rw [ax_n_1163_7]
  have L := kx_down (k := 132) (I := fun f i => Q (some (.int (nI (zscan V f i)))) es → ∀ v5, ax_W (d + 8) n sl 1163 [(2, .iload 4), (2, .ldc 1), (3, .invokedynamic 2), (3, .if_icmp .ge 67), (2, .ldc 1), (2, .iload 4), (3, .invokedynamic 3), (2, .istore 5), (2, .iload 5), (2, .iconst 32), (3, .if_icmp .eq 45), (1, .lload 1), (2, .iconst 8), (1, .lshl), (2, .iload 5), (1, .i2l), (1, .lor), (1, .lstore 1), (3, .goto 61)] 7 [some (.ref 1), some (.long (nL (zwst i).1)), none, some (.int (nI (zwst i).2)), some (.int (nI i)), v5] [] n sl es (ax_qq n sl Q)) ?_ ?_ 132 0 rfl hQ none
  · exact L
  · intro hQ v5
    have e1 : Int32.ofNat 132 ≤ nI 132 := by decide
    have e2 : ax_cat [Value.int (nI 132)] ≤ 8 := by decide
    have f1 : UInt32.ofNat 1 = 1 := rfl
    simp only [ax_W_cons, ax_I, ax_cmp, ax_ii, ax_ll, ax_li, ax_st1, ax_st2, ax_kl, ax_k2, ax_fit, ax_rtok, List.getElem?_cons_zero, List.getElem?_cons_succ, List.length_cons, List.length_nil, List.set_cons_zero, List.set_cons_succ, Nat.reduceAdd, Nat.reduceDiv, Nat.reduceMod, Nat.reduceMul, Nat.reduceLT, Nat.reduceLeDiff, Int32.reduceOfInt, Int64.reduceOfInt, true_and, and_true, and_self, true_or, or_true, false_implies, true_implies, not_false_eq_true, not_true_eq_false, Value.category, Nat.reduceEqDiff, Option.toList, List.cons_append, List.nil_append, List.drop_succ_cons, List.drop_zero, ax_qq_eq, ax_t_1163, ax_j_1163_67, ax_n_1163_67, ax_bi, f1, d8, zst_len, e1, e2]
    exact hQ
  · intro f i hi ih hQ v5
    have hi2 : i < 132 := by omega
    have e1 : ¬ Int32.ofNat 132 ≤ nI i := nI_ge (b := 132) hi2 (by decide)
    have e2 : ax_cat [Value.int (nI i)] ≤ 8 := Nat.le_of_ble_eq_true rfl
    have f1 : UInt32.ofNat 1 = 1 := rfl
    have v1 : vp_in (nI i) 132 := nI_in hi2 (by decide)
    have g1 : (nI i).toNatClampNeg = i := nI_clamp (by omega)
    have g2 := zst_all ⟨i, hi2⟩
    dsimp only at g2
    have i4 : nI i + 1 = nI (i + 1) := (nI_succ i).symm
    obtain ⟨b1, b2, b3⟩ := zws_bd ⟨i, by omega⟩
    dsimp only at b1 b2 b3
    obtain ⟨b4, b5, b6⟩ := b3 hi2
    have hs : zwst (i + 1) = if zst.getD i 0 = 32 then (0, (zwst i).2 + 1) else ((zwst i).1 * 256 + zst.getD i 0, (zwst i).2) := rfl
    rw [zscan] at hQ
    rw [hs] at ih
    generalize zst.getD i 0 = c at g2 b4 b5 b6 hQ ih
    generalize zwst i = W at b1 b2 b5 b6 hQ ih ⊢
    by_cases hc : c = 32
    · subst hc
      have g3 : Int32.ofNat 32 = 32 := rfl
      rw [if_pos rfl] at hQ ih
      have b6 := b6 rfl
      simp only [ax_W_cons, ax_I, ax_cmp, ax_ii, ax_ll, ax_li, ax_st1, ax_st2, ax_kl, ax_k2, ax_fit, ax_rtok, List.getElem?_cons_zero, List.getElem?_cons_succ, List.length_cons, List.length_nil, List.set_cons_zero, List.set_cons_succ, Nat.reduceAdd, Nat.reduceDiv, Nat.reduceMod, Nat.reduceMul, Nat.reduceLT, Nat.reduceLeDiff, Int32.reduceOfInt, Int64.reduceOfInt, true_and, and_true, and_self, true_or, or_true, false_implies, true_implies, not_false_eq_true, not_true_eq_false, Value.category, Nat.reduceEqDiff, Option.toList, List.cons_append, List.nil_append, List.drop_succ_cons, List.drop_zero, ax_qq_eq, ax_t_1163, ax_j_1163_45, ax_n_1163_45, ax_bi, f1, d8, zst_len, e1, e2, kx_cat0, v1, g1, g2, g3, h, hal, zcmp0]
      refine ⟨fun h5 => ?_, fun h5 => ?_⟩
      · have h5 : ¬ W.1 = V := fun z => h5 (by rw [z])
        rw [if_neg h5] at hQ
        have j4 : nI W.2 + 1 = nI (W.2 + 1) := (nI_succ _).symm
        simp only [ax_W_cons, ax_I, ax_cmp, ax_ii, ax_ll, ax_li, ax_st1, ax_st2, ax_kl, ax_k2, ax_fit, ax_rtok, List.getElem?_cons_zero, List.getElem?_cons_succ, List.length_cons, List.length_nil, List.set_cons_zero, List.set_cons_succ, Nat.reduceAdd, Nat.reduceDiv, Nat.reduceMod, Nat.reduceMul, Nat.reduceLT, Nat.reduceLeDiff, Int32.reduceOfInt, Int64.reduceOfInt, true_and, and_true, and_self, true_or, or_true, false_implies, true_implies, not_false_eq_true, not_true_eq_false, Value.category, Nat.reduceEqDiff, Option.toList, List.cons_append, List.nil_append, List.drop_succ_cons, List.drop_zero, ax_qq_eq, ax_t_1163, ax_j_1163_56, ax_n_1163_56, ax_j_1163_61, ax_n_1163_61, i4, j4]
        rw [ax_j_1163_7]
        exact ih hQ _
      · simp only [Classical.not_not] at h5
        have h5 : W.1 = V := nL_inj b6 hv h5
        rw [if_pos h5] at hQ
        exact hQ
    · have g3 : ¬ Int32.ofNat c = 32 := fun z => hc (kn_inj (a := c) (b := 32) (by omega) (by decide) z)
      rw [if_neg hc] at hQ ih
      have g4 : (Int32.ofNat c).toInt64 = nL c := nI_64 (by omega)
      have g5 := nL_shl8 (b5 hc) (show c < 256 by omega)
      simp only [ax_W_cons, ax_I, ax_cmp, ax_ii, ax_ll, ax_li, ax_st1, ax_st2, ax_kl, ax_k2, ax_fit, ax_rtok, List.getElem?_cons_zero, List.getElem?_cons_succ, List.length_cons, List.length_nil, List.set_cons_zero, List.set_cons_succ, Nat.reduceAdd, Nat.reduceDiv, Nat.reduceMod, Nat.reduceMul, Nat.reduceLT, Nat.reduceLeDiff, Int32.reduceOfInt, Int64.reduceOfInt, true_and, and_true, and_self, true_or, or_true, false_implies, true_implies, not_false_eq_true, not_true_eq_false, Value.category, Nat.reduceEqDiff, Option.toList, List.cons_append, List.nil_append, List.drop_succ_cons, List.drop_zero, ax_qq_eq, ax_t_1163, ax_j_1163_61, ax_n_1163_61, ax_bi, f1, d8, zst_len, e1, e2, kx_cat0, v1, g1, g2, g3, g4, g5, i4]
      rw [ax_j_1163_7]
      exact ih hQ _
end TT
