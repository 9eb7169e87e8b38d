/-! the tape -/
def zby (v : Int64) (s : Nat) : Nat := v.toBitVec.toNat / 2 ^ s % 256
theorem zby_lt (v : Int64) (s : Nat) : zby v s < 256 := Nat.mod_lt _ (by decide)
theorem zby_bits {v : Int64} {s : Nat} {X : BitVec 32} (h : ∀ i, i < 8 → X.getLsbD i = v.toBitVec.getLsbD (s + i)) : X &&& 255#32 = BitVec.ofNat 32 (zby v s) := by
  apply BitVec.eq_of_getLsbD_eq
  intro i hi
  have e255 : ∀ i : Fin 32, (255#32).getLsbD i.val = decide (i.val < 8) := by decide +kernel
  have e255 := e255 ⟨i, hi⟩
  dsimp only at e255
  rw [BitVec.getLsbD_and, e255, BitVec.getLsbD_ofNat]
  unfold zby
  rw [show (256 : Nat) = 2 ^ 8 from rfl, Nat.testBit_mod_two_pow, Nat.testBit_div_two_pow]
  by_cases h8 : i < 8
  · rw [h i h8]
    have e : v.toBitVec.getLsbD (s + i) = v.toBitVec.toNat.testBit (i + s) := by
      rw [Nat.add_comm]
      rfl
    simp [h8, hi, e]
  · simp [h8]
theorem zby_s {v : Int64} {c : Nat} (hc : c < 8) : (v >>> ((nI (8 * c)).toInt64 &&& 63)).toInt32 &&& 255 = nI (zby v (8 * c)) := by
  have hD : ∀ c : Fin 8, ((nI (8 * c.val)).toInt64 &&& 63).toBitVec.smod 64 = BitVec.ofNat 64 (8 * c.val) := by decide +kernel
  have hD := hD ⟨c, hc⟩
  dsimp only at hD
  apply Int32.toBitVec_inj.1
  show ((v.toBitVec.sshiftRight' (((nI (8 * c)).toInt64 &&& 63).toBitVec.smod 64)).signExtend 32) &&& 255#32 = BitVec.ofNat 32 (zby v (8 * c))
  rw [hD, BitVec.sshiftRight_eq']
  have e : (BitVec.ofNat 64 (8 * c)).toNat = 8 * c := by
    rw [BitVec.toNat_ofNat]
    omega
  rw [e]
  refine zby_bits (fun i hi => ?_)
  rw [BitVec.getLsbD_signExtend, BitVec.getLsbD_sshiftRight]
  have h1 : i < 32 := by omega
  have h2 : i < 64 := by omega
  have h3 : ¬ 64 ≤ i := by omega
  have h4 : 8 * c + i < 64 := by omega
  simp [h1, h2, h3, h4]
theorem zby_u {v : Int64} {c : Nat} (hc : c < 8) : (ax_lushr v (nI (8 * c))).toInt32 &&& 255 = nI (zby v (8 * c)) := by
  have hD : ∀ c : Fin 8, ((nI (8 * c.val)).toInt64.toUInt64 &&& Int64.toUInt64 63).toBitVec % 64 = BitVec.ofNat 64 (8 * c.val) := by decide +kernel
  have hD := hD ⟨c, hc⟩
  dsimp only at hD
  apply Int32.toBitVec_inj.1
  show ((v.toBitVec >>> (((nI (8 * c)).toInt64.toUInt64 &&& Int64.toUInt64 63).toBitVec % 64)).signExtend 32) &&& 255#32 = BitVec.ofNat 32 (zby v (8 * c))
  rw [hD, BitVec.ushiftRight_eq']
  have e : (BitVec.ofNat 64 (8 * c)).toNat = 8 * c := by
    rw [BitVec.toNat_ofNat]
    omega
  rw [e]
  refine zby_bits (fun i hi => ?_)
  rw [BitVec.getLsbD_signExtend, BitVec.getLsbD_ushiftRight]
  have h1 : i < 32 := by omega
  have h2 : i < 64 := by omega
  simp [h1, h2]
/-- signs that count -/
def zsg (b : Nat) : Bool := decide (b = 10 ∨ (32 ≤ b ∧ b ≤ 126))
abbrev zTp : Type := Nat × (Nat → Nat)
def zps (t : zTp) (b : Nat) : zTp := if zsg b = true ∧ t.1 < 1000 then (t.1 + 1, fun j => if j = t.1 then b else t.2 j) else t
/-- c of the eight bytes are laid, the highest first -/
def z8 (v : Int64) (t : zTp) : Nat → zTp
  | 0 => t
  | c + 1 => zps (z8 v t c) (zby v (8 * (7 - c)))
def zfeed (t : zTp) (a b c : Int64) : zTp := z8 c (z8 b (z8 a t 8) 8) 8
def zT_ok (t : zTp) : Prop := t.1 ≤ 1000 ∧ ∀ j, j < t.1 → zsg (t.2 j) = true
theorem zps_ok {t : zTp} {b : Nat} (h : zT_ok t) : zT_ok (zps t b) := by
  unfold zps
  split
  · next h2 =>
    refine ⟨by show t.1 + 1 ≤ 1000; omega, fun j hj => ?_⟩
    have hj : j < t.1 + 1 := hj
    dsimp only
    split
    · exact h2.1
    · exact h.2 j (by omega)
  · exact h
theorem z8_ok {v : Int64} {t : zTp} (h : zT_ok t) : ∀ c, zT_ok (z8 v t c)
  | 0 => h
  | c + 1 => zps_ok (z8_ok h c)
theorem zfeed_ok {t : zTp} {a b c : Int64} (h : zT_ok t) : zT_ok (zfeed t a b c) := z8_ok (z8_ok (z8_ok h 8) 8) 8
def kT0 (es : ax_H) (tl kd nb : Int32) (nm : Int64) (tk ft pl nx : Int32) : Prop := es 1 = .inr (9, [.ref 2, .int tl, .int kd, .int nb, .long nm, .int tk, .int ft, .int pl, .int nx])
/-- the tape of the class -/
def xTp (es : ax_H) (t : zTp) : Prop := (∃ kd nb nm tk ft pl nx, kT0 es (nI t.1) kd nb nm tk ft pl nx) ∧ ∃ sg, es 2 = .inl (1, 1000, .inl sg) ∧ ∀ j, j < t.1 → sg j = nI (t.2 j)
/-- the tape of the reference -/
def mTp (es : ax_H) (t : zTp) : Prop := ∃ tp, es 160 = .inl (0, 1000, .inl tp) ∧ ∀ j, j < t.1 → tp j = nI (t.2 j)
def zsh (c : Nat) : Int32 := 56 - nI (8 * c)
theorem zsh_lt {c : Nat} (hc : c < 8) : ¬ zsh c < 0 ∧ zsh c = nI (8 * (7 - c)) ∧ zsh c + -8 = zsh (c + 1) := by
  have : ∀ c : Fin 8, ¬ zsh c.val < 0 ∧ zsh c.val = nI (8 * (7 - c.val)) ∧ zsh c.val + -8 = zsh (c.val + 1) := by decide +kernel
  exact this ⟨c, hc⟩
theorem zsg_eq {b : Nat} (hb : b < 256) : zsg b = (decide (nI b = 10) || kx_in (nI b) 32 126) := by
  have : ∀ b : Fin 256, zsg b.val = (decide (nI b.val = 10) || kx_in (nI b.val) 32 126) := by decide +kernel
  exact this ⟨b, hb⟩
theorem zsg_by {b : Nat} (h : zsg b = true) : (nI b).toInt8.toInt32 = nI b ∧ vp_nar .byte (nI b) = nI b := by
  have hb : b < 127 := by
    unfold zsg at h
    simp at h
    omega
  have : ∀ b : Fin 127, (nI b.val).toInt8.toInt32 = nI b.val ∧ vp_nar .byte (nI b.val) = nI b.val := by decide +kernel
  exact this ⟨b, hb⟩
section TT
variable {d n sl : Nat} {es : ax_H} {t : zTp} {Q : Option Value → ax_H → Prop}
theorem ck_addEight (hal : ax_al n = 178) (hT : xTp es t) (ht : zT_ok t) (v : Int64) (hQ : ∀ es', xTp es' (z8 v t 8) → (∀ j, j ≠ 1 ∧ j ≠ 2 → es' j = es j) → Q none es') : ax_Mt (d + 1) 1153 [.ref 1, .long v] n sl es Q := by
  have c10 : ¬ (1 : Int32) = 0 := by decide
  refine ax_Mt_go (m := ax_m_9_1) (ls := [some (.ref 1), some (.long v), none, none, none, none]) rfl ax_b_1153_0 (Nat.le_of_ble_eq_true rfl) rfl ?_
  simp only [ax_W_cons, ax_I, ax_cmp, ax_ii, ax_ll, ax_li, ax_st1, ax_st2, ax_kl, ax_k2, ax_fit, ax_rtok, List.getElem?_cons_zero, List.getElem?_cons_succ, List.length_cons, List.length_nil, List.set_cons_zero, List.set_cons_succ, Nat.reduceAdd, Nat.reduceDiv, Nat.reduceMod, Nat.reduceMul, Nat.reduceLT, Nat.reduceLeDiff, Int32.reduceOfInt, Int64.reduceOfInt, true_and, and_true, and_self, true_or, or_true, false_implies, true_implies, not_false_eq_true, not_true_eq_false, Value.category, Nat.reduceEqDiff, Option.toList, List.cons_append, List.nil_append, List.drop_succ_cons, List.drop_zero, ax_qq_eq, ax_t_1153]
  rw [ax_n_1153_3]
  have L := kx_loop (k := 8) (I := fun c => ∀ v4 v5 es1, xTp es1 (z8 v t c) → (∀ j, j ≠ 1 ∧ j ≠ 2 → es1 j = es j) → ax_W (d + 1) n sl 1153 [(1, .iload 3), (3, .ifCond .lt 86), (1, .lload 1), (1, .iload 3), (1, .lushr), (1, .l2i), (3, .iconst 255), (1, .iand), (2, .istore 4), (2, .iload 4), (2, .iconst 10), (3, .if_icmp .eq 36), (2, .iload 4), (2, .iconst 32), (2, .iconst 126), (3, .invokeinterface 1322 12), (3, .ifCond .eq 40)] 3 [some (.ref 1), some (.long v), none, some (.int (zsh c)), v4, v5] [] n sl es1 (ax_qq n sl Q)) ?_ ?_
  · exact L none none es hT (fun j hj => rfl)
  · intro v4 v5 es1 i1 i2
    have e1 : zsh 8 < 0 := by decide
    simp only [ax_W_cons, ax_I, ax_cmp, ax_ii, ax_ll, ax_li, ax_st1, ax_st2, ax_kl, ax_k2, ax_fit, ax_rtok, List.getElem?_cons_zero, List.getElem?_cons_succ, List.length_cons, List.length_nil, List.set_cons_zero, List.set_cons_succ, Nat.reduceAdd, Nat.reduceDiv, Nat.reduceMod, Nat.reduceMul, Nat.reduceLT, Nat.reduceLeDiff, Int32.reduceOfInt, Int64.reduceOfInt, true_and, and_true, and_self, true_or, or_true, false_implies, true_implies, not_false_eq_true, not_true_eq_false, Value.category, Nat.reduceEqDiff, Option.toList, List.cons_append, List.nil_append, List.drop_succ_cons, List.drop_zero, ax_qq_eq, ax_t_1153, ax_j_1153_86, ax_n_1153_86, e1]
    exact hQ es1 i1 i2
  · intro c hc ih v4 v5 es1 i1 i2
    obtain ⟨s1, s2, s3⟩ := zsh_lt hc
    have eb := zby_u (v := v) (c := 7 - c) (by omega)
    rw [← s2] at eb
    have hlt := zby_lt v (8 * (7 - c))
    have hok := z8_ok (v := v) ht c
    rw [z8] at ih
    generalize zby v (8 * (7 - c)) = b at eb hlt ih
    generalize z8 v t c = T at i1 ih hok
    obtain ⟨⟨kd, nb, nm, tk, ft, pl, nx, h1⟩, sg, h2, h3⟩ := id i1
    unfold kT0 at h1
    have hz := zsg_eq hlt
    -- a sign that is left out
    have skip : ∀ v5, ¬ (zsg b = true ∧ T.1 < 1000) → ax_J ax_W (d + 1) n sl 1153 80 [some (.ref 1), some (.long v), none, some (.int (zsh c)), some (.int (nI b)), v5] [] n sl es1 (ax_qq n sl Q) := by
      intro v5 hno
      unfold zps at ih
      rw [if_neg hno] at ih
      simp only [ax_W_cons, ax_I, ax_cmp, ax_ii, ax_ll, ax_li, ax_st1, ax_st2, ax_kl, ax_k2, ax_fit, ax_rtok, List.getElem?_cons_zero, List.getElem?_cons_succ, List.length_cons, List.length_nil, List.set_cons_zero, List.set_cons_succ, Nat.reduceAdd, Nat.reduceDiv, Nat.reduceMod, Nat.reduceMul, Nat.reduceLT, Nat.reduceLeDiff, Int32.reduceOfInt, Int64.reduceOfInt, true_and, and_true, and_self, true_or, or_true, false_implies, true_implies, not_false_eq_true, not_true_eq_false, Value.category, Nat.reduceEqDiff, Option.toList, List.cons_append, List.nil_append, List.drop_succ_cons, List.drop_zero, ax_qq_eq, ax_t_1153, ax_j_1153_80, ax_n_1153_80, s3]
      rw [ax_j_1153_3]
      exact ih _ _ es1 i1 i2
    have take : zsg b = true → ax_J ax_W (d + 1) n sl 1153 36 [some (.ref 1), some (.long v), none, some (.int (zsh c)), some (.int (nI b)), v5] [] n sl es1 (ax_qq n sl Q) := by
      intro hyes
      obtain ⟨y1, y2⟩ := zsg_by hyes
      by_cases hl : T.1 < 1000
      · have e1 : ¬ (1000 : Int32) ≤ nI T.1 := nI_ge (b := 1000) hl (by decide)
        have e2 : vp_in (nI T.1) 1000 := nI_in hl (by decide)
        have e3 : (nI T.1).toNatClampNeg = T.1 := nI_clamp (by omega)
        have e4 : nI T.1 + 1 = nI (T.1 + 1) := (nI_succ _).symm
        have g1 : ∀ e, ax_up es1 2 e 1 = _ := fun e => (ax_up_ne es1 e (by decide)).trans h1
        unfold zps at ih
        rw [if_pos ⟨hyes, hl⟩] at ih
        simp only [ax_W_cons, ax_I, ax_cmp, ax_ii, ax_ll, ax_li, ax_st1, ax_st2, ax_kl, ax_k2, ax_fit, ax_rtok, List.getElem?_cons_zero, List.getElem?_cons_succ, List.length_cons, List.length_nil, List.set_cons_zero, List.set_cons_succ, Nat.reduceAdd, Nat.reduceDiv, Nat.reduceMod, Nat.reduceMul, Nat.reduceLT, Nat.reduceLeDiff, Int32.reduceOfInt, Int64.reduceOfInt, true_and, and_true, and_self, true_or, or_true, false_implies, true_implies, not_false_eq_true, not_true_eq_false, Value.category, Nat.reduceEqDiff, Option.toList, List.cons_append, List.nil_append, List.drop_succ_cons, List.drop_zero, ax_qq_eq, ax_t_1153, ax_j_1153_36, ax_n_1153_36, ax_j_1153_41, ax_n_1153_41, ax_j_1153_80, ax_n_1153_80, c10, h1, h2, g1, hal, e1, e2, e3, e4, y1, y2, s3]
        rw [ax_j_1153_3]
        refine ih _ _ _ ⟨⟨kd, nb, nm, tk, ft, pl, nx, ax_up_same ..⟩, upd sg T.1 (nI b), (ax_up_ne _ _ (by decide)).trans (ax_up_same ..), fun j hj => ?_⟩ (fun j hj => (ax_up_ne _ _ hj.1).trans ((ax_up_ne _ _ hj.2).trans (i2 j hj)))
        have hj : j < T.1 + 1 := hj
        dsimp only
        unfold upd
        by_cases e : j = T.1
        · rw [if_pos e, if_pos e]
        · rw [if_neg e, if_neg e]
          exact h3 j (by omega)
      · have e1 : (1000 : Int32) ≤ nI T.1 := nI_le (a := 1000) (by omega) (by have := hok.1; omega)
        simp only [ax_W_cons, ax_I, ax_cmp, ax_ii, ax_ll, ax_li, ax_st1, ax_st2, ax_kl, ax_k2, ax_fit, ax_rtok, List.getElem?_cons_zero, List.getElem?_cons_succ, List.length_cons, List.length_nil, List.set_cons_zero, List.set_cons_succ, Nat.reduceAdd, Nat.reduceDiv, Nat.reduceMod, Nat.reduceMul, Nat.reduceLT, Nat.reduceLeDiff, Int32.reduceOfInt, Int64.reduceOfInt, true_and, and_true, and_self, true_or, or_true, false_implies, true_implies, not_false_eq_true, not_true_eq_false, Value.category, Nat.reduceEqDiff, Option.toList, List.cons_append, List.nil_append, List.drop_succ_cons, List.drop_zero, ax_qq_eq, ax_t_1153, ax_j_1153_36, ax_n_1153_36, ax_j_1153_41, ax_n_1153_41, c10, h1, hal, e1]
        exact skip _ (fun z => hl z.2)
    simp only [ax_W_cons, ax_I, ax_cmp, ax_ii, ax_ll, ax_li, ax_st1, ax_st2, ax_kl, ax_k2, ax_fit, ax_rtok, List.getElem?_cons_zero, List.getElem?_cons_succ, List.length_cons, List.length_nil, List.set_cons_zero, List.set_cons_succ, Nat.reduceAdd, Nat.reduceDiv, Nat.reduceMod, Nat.reduceMul, Nat.reduceLT, Nat.reduceLeDiff, Int32.reduceOfInt, Int64.reduceOfInt, true_and, and_true, and_self, true_or, or_true, false_implies, true_implies, not_false_eq_true, not_true_eq_false, Value.category, Nat.reduceEqDiff, Option.toList, List.cons_append, List.nil_append, List.drop_succ_cons, List.drop_zero, ax_qq_eq, ax_t_1153, s1, eb]
    by_cases hb10 : nI b = 10
    · have hyes : zsg b = true := by
        rw [hz, decide_eq_true hb10]
        rfl
      refine ⟨fun _ => take hyes, fun h => absurd hb10 h⟩
    · refine ⟨fun h => absurd h hb10, fun _ => ?_⟩
      rw [decide_eq_false hb10, Bool.false_or] at hz
      refine ax_inv_of (Nat.le_of_ble_eq_true rfl) (Nat.le_of_ble_eq_true rfl) (fun _ => absurd ‹_› (by decide)) (fun h => absurd h (by decide)) (Nat.le_refl _) (Nat.le_refl _) (ax_Mt_mono (ck_isWithin _ _ _ _ (nI b) 32 126) ?_)
      rintro r es2 ⟨rfl, rfl⟩
      rw [← hz]
      cases hyes : zsg b
      · simp only [ax_W_cons, ax_I, ax_cmp, ax_ii, ax_ll, ax_li, ax_st1, ax_st2, ax_kl, ax_k2, ax_fit, ax_rtok, List.getElem?_cons_zero, List.getElem?_cons_succ, List.length_cons, List.length_nil, List.set_cons_zero, List.set_cons_succ, Nat.reduceAdd, Nat.reduceDiv, Nat.reduceMod, Nat.reduceMul, Nat.reduceLT, Nat.reduceLeDiff, Int32.reduceOfInt, Int64.reduceOfInt, true_and, and_true, and_self, true_or, or_true, false_implies, true_implies, not_false_eq_true, not_true_eq_false, Value.category, Nat.reduceEqDiff, Option.toList, List.cons_append, List.nil_append, List.drop_succ_cons, List.drop_zero, ax_qq_eq, ax_t_1153, ax_j_1153_40, ax_n_1153_40, ax_j_1153_41, ax_n_1153_41, kx_bf]
        exact skip _ (fun z => by rw [hyes] at z; exact absurd z.1 (by decide))
      · have take := take hyes
        rw [ax_j_1153_36, ← ax_n_1153_36] at take
        simp only [ax_W_cons, ax_I, ax_cmp, ax_ii, ax_ll, ax_li, ax_st1, ax_st2, ax_kl, ax_k2, ax_fit, ax_rtok, List.getElem?_cons_zero, List.getElem?_cons_succ, List.length_cons, List.length_nil, List.set_cons_zero, List.set_cons_succ, Nat.reduceAdd, Nat.reduceDiv, Nat.reduceMod, Nat.reduceMul, Nat.reduceLT, Nat.reduceLeDiff, Int32.reduceOfInt, Int64.reduceOfInt, true_and, and_true, and_self, true_or, or_true, false_implies, true_implies, not_false_eq_true, not_true_eq_false, Value.category, Nat.reduceEqDiff, Option.toList, List.cons_append, List.nil_append, List.drop_succ_cons, List.drop_zero, ax_qq_eq, ax_t_1153, kx_bt, c10]
        exact take
theorem xp_feed (hal : ax_al n = 178) (x0 : zXo es) (hT : xTp es t) (ht : zT_ok t) (a b c : Int64) (hQ : ∀ es', xTp es' (zfeed t a b c) → (∀ j, j ≠ 1 ∧ j ≠ 2 → es' j = es j) → Q (some (.int (nI (zfeed t a b c).1))) es') : ax_Mt (d + 10) 1281 [.ref 0, .long a, .long b, .long c] n sl es Q := by
  unfold zXo at x0
  have rc : ∀ es1 t, xTp es1 t → ∀ As, ax_rcv n es1 9 (.ref 1 :: As) := fun es1 t h As => by
    obtain ⟨⟨kd, nb, nm, tk, ft, pl, nx, h1⟩, -⟩ := h
    exact ax_rcv_ok (by omega) h1
  refine ax_Mt_go (m := ax_m_10_1) (ls := [some (.ref 0), some (.long a), none, some (.long b), none, some (.long c), none]) rfl ax_b_1281_0 (Nat.le_of_ble_eq_true rfl) rfl ?_
  simp only [ax_W_cons, ax_I, ax_cmp, ax_ii, ax_ll, ax_li, ax_st1, ax_st2, ax_kl, ax_k2, ax_fit, ax_rtok, List.getElem?_cons_zero, List.getElem?_cons_succ, List.length_cons, List.length_nil, List.set_cons_zero, List.set_cons_succ, Nat.reduceAdd, Nat.reduceDiv, Nat.reduceMod, Nat.reduceMul, Nat.reduceLT, Nat.reduceLeDiff, Int32.reduceOfInt, Int64.reduceOfInt, true_and, and_true, and_self, true_or, or_true, false_implies, true_implies, not_false_eq_true, not_true_eq_false, Value.category, Nat.reduceEqDiff, Option.toList, List.cons_append, List.nil_append, List.drop_succ_cons, List.drop_zero, ax_qq_eq, ax_t_1281, x0, hal]
  refine ax_inv_of (Nat.le_of_ble_eq_true rfl) (Nat.le_of_ble_eq_true rfl) (fun _ => rc _ _ hT _) (fun h => absurd h (by decide)) (Nat.le_refl _) (Nat.le_refl _) (ck_addEight hal hT ht a ?_)
  intro es1 T1 f1
  have x1 := (f1 0 (by decide)).trans x0
  simp only [ax_W_cons, ax_I, ax_cmp, ax_ii, ax_ll, ax_li, ax_st1, ax_st2, ax_kl, ax_k2, ax_fit, ax_rtok, List.getElem?_cons_zero, List.getElem?_cons_succ, List.length_cons, List.length_nil, List.set_cons_zero, List.set_cons_succ, Nat.reduceAdd, Nat.reduceDiv, Nat.reduceMod, Nat.reduceMul, Nat.reduceLT, Nat.reduceLeDiff, Int32.reduceOfInt, Int64.reduceOfInt, true_and, and_true, and_self, true_or, or_true, false_implies, true_implies, not_false_eq_true, not_true_eq_false, Value.category, Nat.reduceEqDiff, Option.toList, List.cons_append, List.nil_append, List.drop_succ_cons, List.drop_zero, ax_qq_eq, ax_t_1281, x1, hal]
  refine ax_inv_of (Nat.le_of_ble_eq_true rfl) (Nat.le_of_ble_eq_true rfl) (fun _ => rc _ _ T1 _) (fun h => absurd h (by decide)) (Nat.le_refl _) (Nat.le_refl _) (ck_addEight hal T1 (z8_ok ht 8) b ?_)
  intro es2 T2 f2
  have x2 := (f2 0 (by decide)).trans x1
  simp only [ax_W_cons, ax_I, ax_cmp, ax_ii, ax_ll, ax_li, ax_st1, ax_st2, ax_kl, ax_k2, ax_fit, ax_rtok, List.getElem?_cons_zero, List.getElem?_cons_succ, List.length_cons, List.length_nil, List.set_cons_zero, List.set_cons_succ, Nat.reduceAdd, Nat.reduceDiv, Nat.reduceMod, Nat.reduceMul, Nat.reduceLT, Nat.reduceLeDiff, Int32.reduceOfInt, Int64.reduceOfInt, true_and, and_true, and_self, true_or, or_true, false_implies, true_implies, not_false_eq_true, not_true_eq_false, Value.category, Nat.reduceEqDiff, Option.toList, List.cons_append, List.nil_append, List.drop_succ_cons, List.drop_zero, ax_qq_eq, ax_t_1281, x2, hal]
  refine ax_inv_of (Nat.le_of_ble_eq_true rfl) (Nat.le_of_ble_eq_true rfl) (fun _ => rc _ _ T2 _) (fun h => absurd h (by decide)) (Nat.le_refl _) (Nat.le_refl _) (ck_addEight hal T2 (z8_ok (z8_ok ht 8) 8) c ?_)
  intro es3 T3 f3
  have x3 := (f3 0 (by decide)).trans x2
  obtain ⟨⟨kd, nb, nm, tk, ft, pl, nx, h1⟩, -⟩ := id T3
  unfold kT0 at h1
  simp only [ax_W_cons, ax_I, ax_cmp, ax_ii, ax_ll, ax_li, ax_st1, ax_st2, ax_kl, ax_k2, ax_fit, ax_rtok, List.getElem?_cons_zero, List.getElem?_cons_succ, List.length_cons, List.length_nil, List.set_cons_zero, List.set_cons_succ, Nat.reduceAdd, Nat.reduceDiv, Nat.reduceMod, Nat.reduceMul, Nat.reduceLT, Nat.reduceLeDiff, Int32.reduceOfInt, Int64.reduceOfInt, true_and, and_true, and_self, true_or, or_true, false_implies, true_implies, not_false_eq_true, not_true_eq_false, Value.category, Nat.reduceEqDiff, Option.toList, List.cons_append, List.nil_append, List.drop_succ_cons, List.drop_zero, ax_qq_eq, ax_t_1281, x3, h1, hal]
  exact hQ es3 T3 (fun j hj => (f3 j hj).trans ((f2 j hj).trans (f1 j hj)))
/-- the reference's object, its tape's length apart -/
def mOt (es : ax_H) (th tl : Int32) (v : Int32 × Int32 × Int32 × Int32 × Int32 × Int32 × Int32 × Int32) (un : Int32) (g : Int64) : Prop := es 159 = .inr (11, mo_f th tl v.1 v.2.1 v.2.2.1 v.2.2.2.1 v.2.2.2.2.1 v.2.2.2.2.2.1 v.2.2.2.2.2.2.1 v.2.2.2.2.2.2.2 un g)
theorem mk_lay (hal : ax_al n = 178) {th : Int32} {w : Int32 × Int32 × Int32 × Int32 × Int32 × Int32 × Int32 × Int32} {un : Int32} {g : Int64} (hO : mOt es th (nI t.1) w un g) (hT : mTp es t) (ht : zT_ok t) (v : Int64) (hQ : ∀ es', mOt es' th (nI (z8 v t 8).1) w un g → mTp es' (z8 v t 8) → (∀ j, j ≠ 159 ∧ j ≠ 160 → es' j = es j) → Q none es') : ax_Mt (d + 1) 1410 [.ref 159, .long v] n sl es Q := by
  refine ax_Mt_go (m := ax_m_11_2) (ls := [some (.ref 159), some (.long v), none, none, none]) rfl ax_b_1410_0 (Nat.le_of_ble_eq_true rfl) rfl ?_
  simp only [ax_W_cons, ax_I, ax_cmp, ax_ii, ax_ll, ax_li, ax_st1, ax_st2, ax_kl, ax_k2, ax_fit, ax_rtok, List.getElem?_cons_zero, List.getElem?_cons_succ, List.length_cons, List.length_nil, List.set_cons_zero, List.set_cons_succ, Nat.reduceAdd, Nat.reduceDiv, Nat.reduceMod, Nat.reduceMul, Nat.reduceLT, Nat.reduceLeDiff, Int32.reduceOfInt, Int64.reduceOfInt, true_and, and_true, and_self, true_or, or_true, false_implies, true_implies, not_false_eq_true, not_true_eq_false, Value.category, Nat.reduceEqDiff, Option.toList, List.cons_append, List.nil_append, List.drop_succ_cons, List.drop_zero, ax_qq_eq, ax_t_1410]
  rw [ax_n_1410_3]
  have L := kx_loop (k := 8) (I := fun c => ∀ v4 es1, mOt es1 th (nI (z8 v t c).1) w un g → mTp es1 (z8 v t c) → (∀ j, j ≠ 159 ∧ j ≠ 160 → es1 j = es j) → ax_W (d + 1) n sl 1410 [(1, .iload 3), (3, .ifCond .lt 75), (1, .lload 1), (1, .iload 3), (1, .lshr), (1, .l2i), (3, .iconst 255), (1, .iand), (2, .istore 4), (2, .iload 4), (2, .iconst 10), (3, .if_icmp .eq 38), (2, .iload 4), (2, .iconst 32), (3, .if_icmp .lt 69), (2, .iload 4), (2, .iconst 126), (3, .if_icmp .gt 69)] 3 [some (.ref 159), some (.long v), none, some (.int (zsh c)), v4] [] n sl es1 (ax_qq n sl Q)) ?_ ?_
  · exact L none es hO hT (fun j hj => rfl)
  · intro v4 es1 i0 i1 i2
    have e1 : zsh 8 < 0 := by decide
    simp only [ax_W_cons, ax_I, ax_cmp, ax_ii, ax_ll, ax_li, ax_st1, ax_st2, ax_kl, ax_k2, ax_fit, ax_rtok, List.getElem?_cons_zero, List.getElem?_cons_succ, List.length_cons, List.length_nil, List.set_cons_zero, List.set_cons_succ, Nat.reduceAdd, Nat.reduceDiv, Nat.reduceMod, Nat.reduceMul, Nat.reduceLT, Nat.reduceLeDiff, Int32.reduceOfInt, Int64.reduceOfInt, true_and, and_true, and_self, true_or, or_true, false_implies, true_implies, not_false_eq_true, not_true_eq_false, Value.category, Nat.reduceEqDiff, Option.toList, List.cons_append, List.nil_append, List.drop_succ_cons, List.drop_zero, ax_qq_eq, ax_t_1410, ax_j_1410_75, ax_n_1410_75, e1]
    exact hQ es1 i0 i1 i2
  · intro c hc ih v4 es1 i0 i1 i2
    obtain ⟨s1, s2, s3⟩ := zsh_lt hc
    have eb := zby_s (v := v) (c := 7 - c) (by omega)
    rw [← s2] at eb
    have hlt := zby_lt v (8 * (7 - c))
    have hok := z8_ok (v := v) ht c
    rw [z8] at ih
    generalize zby v (8 * (7 - c)) = b at eb hlt ih
    generalize z8 v t c = T at i0 i1 ih hok
    obtain ⟨tp, h2, h3⟩ := id i1
    have h1 : es1 159 = _ := i0
    have hz := zsg_eq hlt
    have skip : ¬ (zsg b = true ∧ T.1 < 1000) → ax_J ax_W (d + 1) n sl 1410 69 [some (.ref 159), some (.long v), none, some (.int (zsh c)), some (.int (nI b))] [] n sl es1 (ax_qq n sl Q) := by
      intro hno
      unfold zps at ih
      rw [if_neg hno] at ih
      simp only [ax_W_cons, ax_I, ax_cmp, ax_ii, ax_ll, ax_li, ax_st1, ax_st2, ax_kl, ax_k2, ax_fit, ax_rtok, List.getElem?_cons_zero, List.getElem?_cons_succ, List.length_cons, List.length_nil, List.set_cons_zero, List.set_cons_succ, Nat.reduceAdd, Nat.reduceDiv, Nat.reduceMod, Nat.reduceMul, Nat.reduceLT, Nat.reduceLeDiff, Int32.reduceOfInt, Int64.reduceOfInt, true_and, and_true, and_self, true_or, or_true, false_implies, true_implies, not_false_eq_true, not_true_eq_false, Value.category, Nat.reduceEqDiff, Option.toList, List.cons_append, List.nil_append, List.drop_succ_cons, List.drop_zero, ax_qq_eq, ax_t_1410, ax_j_1410_69, ax_n_1410_69, s3]
      rw [ax_j_1410_3]
      exact ih _ es1 i0 i1 i2
    have take : zsg b = true → ax_J ax_W (d + 1) n sl 1410 38 [some (.ref 159), some (.long v), none, some (.int (zsh c)), some (.int (nI b))] [] n sl es1 (ax_qq n sl Q) := by
      intro hyes
      by_cases hl : T.1 < 1000
      · have e1 : ¬ (1000 : Int32) ≤ nI T.1 := nI_ge (b := 1000) hl (by decide)
        have e2 : vp_in (nI T.1) 1000 := nI_in hl (by decide)
        have e3 : (nI T.1).toNatClampNeg = T.1 := nI_clamp (by omega)
        have e4 : nI T.1 + 1 = nI (T.1 + 1) := (nI_succ _).symm
        have g1 : ∀ e, ax_up es1 160 e 159 = _ := fun e => (ax_up_ne es1 e (by decide)).trans h1
        unfold zps at ih
        rw [if_pos ⟨hyes, hl⟩] at ih
        simp only [ax_W_cons, ax_I, ax_cmp, ax_ii, ax_ll, ax_li, ax_st1, ax_st2, ax_kl, ax_k2, ax_fit, ax_rtok, List.getElem?_cons_zero, List.getElem?_cons_succ, List.length_cons, List.length_nil, List.set_cons_zero, List.set_cons_succ, Nat.reduceAdd, Nat.reduceDiv, Nat.reduceMod, Nat.reduceMul, Nat.reduceLT, Nat.reduceLeDiff, Int32.reduceOfInt, Int64.reduceOfInt, true_and, and_true, and_self, true_or, or_true, false_implies, true_implies, not_false_eq_true, not_true_eq_false, Value.category, Nat.reduceEqDiff, Option.toList, List.cons_append, List.nil_append, List.drop_succ_cons, List.drop_zero, ax_qq_eq, ax_t_1410, ax_j_1410_38, ax_n_1410_38, ax_j_1410_69, ax_n_1410_69, h1, h2, g1, mo_f, hal, e1, e2, e3, e4, s3]
        rw [ax_j_1410_3]
        refine ih _ _ (ax_up_same ..) ⟨upd tp T.1 (nI b), (ax_up_ne _ _ (by decide)).trans (ax_up_same ..), fun j hj => ?_⟩ (fun j hj => (ax_up_ne _ _ hj.1).trans ((ax_up_ne _ _ hj.2).trans (i2 j hj)))
        have hj : j < T.1 + 1 := hj
        dsimp only
        unfold upd
        by_cases e : j = T.1
        · rw [if_pos e, if_pos e]
        · rw [if_neg e, if_neg e]
          exact h3 j (by omega)
      · have e1 : (1000 : Int32) ≤ nI T.1 := nI_le (a := 1000) (by omega) (by have := hok.1; omega)
        simp only [ax_W_cons, ax_I, ax_cmp, ax_ii, ax_ll, ax_li, ax_st1, ax_st2, ax_kl, ax_k2, ax_fit, ax_rtok, List.getElem?_cons_zero, List.getElem?_cons_succ, List.length_cons, List.length_nil, List.set_cons_zero, List.set_cons_succ, Nat.reduceAdd, Nat.reduceDiv, Nat.reduceMod, Nat.reduceMul, Nat.reduceLT, Nat.reduceLeDiff, Int32.reduceOfInt, Int64.reduceOfInt, true_and, and_true, and_self, true_or, or_true, false_implies, true_implies, not_false_eq_true, not_true_eq_false, Value.category, Nat.reduceEqDiff, Option.toList, List.cons_append, List.nil_append, List.drop_succ_cons, List.drop_zero, ax_qq_eq, ax_t_1410, ax_j_1410_38, ax_n_1410_38, h1, mo_f, hal, e1]
        exact skip (fun z => hl z.2)
    simp only [ax_W_cons, ax_I, ax_cmp, ax_ii, ax_ll, ax_li, ax_st1, ax_st2, ax_kl, ax_k2, ax_fit, ax_rtok, List.getElem?_cons_zero, List.getElem?_cons_succ, List.length_cons, List.length_nil, List.set_cons_zero, List.set_cons_succ, Nat.reduceAdd, Nat.reduceDiv, Nat.reduceMod, Nat.reduceMul, Nat.reduceLT, Nat.reduceLeDiff, Int32.reduceOfInt, Int64.reduceOfInt, true_and, and_true, and_self, true_or, or_true, false_implies, true_implies, not_false_eq_true, not_true_eq_false, Value.category, Nat.reduceEqDiff, Option.toList, List.cons_append, List.nil_append, List.drop_succ_cons, List.drop_zero, ax_qq_eq, ax_t_1410, s1, eb]
    by_cases hb10 : nI b = 10
    · have hyes : zsg b = true := by
        rw [hz, decide_eq_true hb10]
        rfl
      refine ⟨fun _ => take hyes, fun h => absurd hb10 h⟩
    · refine ⟨fun h => absurd h hb10, fun _ => ?_⟩
      rw [decide_eq_false hb10, Bool.false_or] at hz
      unfold kx_in at hz
      refine ⟨fun h5 => skip (fun z => ?_), fun h5 => ⟨fun h6 => skip (fun z => ?_), fun h6 => ?_⟩⟩
      · rw [hz, decide_eq_false (kx_lt_nle h5)] at z
        exact absurd z.1 (by simp)
      · rw [hz, decide_eq_false (kx_lt_nle h6), Bool.and_false] at z
        exact absurd z.1 (by decide)
      · rw [kx_nlt] at h5 h6
        have take := take (by rw [hz, decide_eq_true h5, decide_eq_true h6]; rfl)
        rw [ax_n_1410_38, ← ax_j_1410_38]
        exact take
theorem mp_feed (hal : ax_al n = 178) {th : Int32} {w : Int32 × Int32 × Int32 × Int32 × Int32 × Int32 × Int32 × Int32} {un : Int32} {g : Int64} (hO : mOt es th (nI t.1) w un g) (hT : mTp es t) (ht : zT_ok t) (a b c : Int64) (hQ : ∀ es', mOt es' 0 (nI (zfeed t a b c).1) w un g → mTp es' (zfeed t a b c) → (∀ j, j ≠ 159 ∧ j ≠ 160 → es' j = es j) → Q (some (.int (nI (zfeed t a b c).1))) es') : ax_Mt (d + 10) 1409 [.ref 159, .long a, .long b, .long c] n sl es Q := by
  have rc : ∀ es1 th x, mOt es1 th x w un g → ∀ As, ax_rcv n es1 11 (.ref 159 :: As) := fun es1 th x h As => ax_rcv_ok (by omega) h
  have h1 : es 159 = _ := hO
  refine ax_Mt_go (m := ax_m_11_1) (ls := [some (.ref 159), some (.long a), none, some (.long b), none, some (.long c), none]) rfl ax_b_1409_0 (Nat.le_of_ble_eq_true rfl) rfl ?_
  simp only [ax_W_cons, ax_I, ax_cmp, ax_ii, ax_ll, ax_li, ax_st1, ax_st2, ax_kl, ax_k2, ax_fit, ax_rtok, List.getElem?_cons_zero, List.getElem?_cons_succ, List.length_cons, List.length_nil, List.set_cons_zero, List.set_cons_succ, Nat.reduceAdd, Nat.reduceDiv, Nat.reduceMod, Nat.reduceMul, Nat.reduceLT, Nat.reduceLeDiff, Int32.reduceOfInt, Int64.reduceOfInt, true_and, and_true, and_self, true_or, or_true, false_implies, true_implies, not_false_eq_true, not_true_eq_false, Value.category, Nat.reduceEqDiff, Option.toList, List.cons_append, List.nil_append, List.drop_succ_cons, List.drop_zero, ax_qq_eq, ax_t_1409, h1, mo_f, hal]
  have o0 : mOt (ax_up es 159 (.inr (11, mo_f 0 (nI t.1) w.1 w.2.1 w.2.2.1 w.2.2.2.1 w.2.2.2.2.1 w.2.2.2.2.2.1 w.2.2.2.2.2.2.1 w.2.2.2.2.2.2.2 un g))) 0 (nI t.1) w un g := ax_up_same ..
  have t0 : mTp (ax_up es 159 (.inr (11, mo_f 0 (nI t.1) w.1 w.2.1 w.2.2.1 w.2.2.2.1 w.2.2.2.2.1 w.2.2.2.2.2.1 w.2.2.2.2.2.2.1 w.2.2.2.2.2.2.2 un g))) t := by
    obtain ⟨tp, h2, h3⟩ := hT
    exact ⟨tp, (ax_up_ne _ _ (by decide)).trans h2, h3⟩
  refine ax_inv_of (Nat.le_of_ble_eq_true rfl) (Nat.le_of_ble_eq_true rfl) (fun _ => rc _ _ _ o0 _) (fun h => absurd h (by decide)) (Nat.le_refl _) (Nat.le_refl _) (mk_lay hal o0 t0 ht a ?_)
  intro es1 o1 t1 f1
  simp only [ax_W_cons, ax_I, ax_cmp, ax_ii, ax_ll, ax_li, ax_st1, ax_st2, ax_kl, ax_k2, ax_fit, ax_rtok, List.getElem?_cons_zero, List.getElem?_cons_succ, List.length_cons, List.length_nil, List.set_cons_zero, List.set_cons_succ, Nat.reduceAdd, Nat.reduceDiv, Nat.reduceMod, Nat.reduceMul, Nat.reduceLT, Nat.reduceLeDiff, Int32.reduceOfInt, Int64.reduceOfInt, true_and, and_true, and_self, true_or, or_true, false_implies, true_implies, not_false_eq_true, not_true_eq_false, Value.category, Nat.reduceEqDiff, Option.toList, List.cons_append, List.nil_append, List.drop_succ_cons, List.drop_zero, ax_qq_eq, ax_t_1409]
  refine ax_inv_of (Nat.le_of_ble_eq_true rfl) (Nat.le_of_ble_eq_true rfl) (fun _ => rc _ _ _ o1 _) (fun h => absurd h (by decide)) (Nat.le_refl _) (Nat.le_refl _) (mk_lay hal o1 t1 (z8_ok ht 8) b ?_)
  intro es2 o2 t2 f2
  simp only [ax_W_cons, ax_I, ax_cmp, ax_ii, ax_ll, ax_li, ax_st1, ax_st2, ax_kl, ax_k2, ax_fit, ax_rtok, List.getElem?_cons_zero, List.getElem?_cons_succ, List.length_cons, List.length_nil, List.set_cons_zero, List.set_cons_succ, Nat.reduceAdd, Nat.reduceDiv, Nat.reduceMod, Nat.reduceMul, Nat.reduceLT, Nat.reduceLeDiff, Int32.reduceOfInt, Int64.reduceOfInt, true_and, and_true, and_self, true_or, or_true, false_implies, true_implies, not_false_eq_true, not_true_eq_false, Value.category, Nat.reduceEqDiff, Option.toList, List.cons_append, List.nil_append, List.drop_succ_cons, List.drop_zero, ax_qq_eq, ax_t_1409]
  refine ax_inv_of (Nat.le_of_ble_eq_true rfl) (Nat.le_of_ble_eq_true rfl) (fun _ => rc _ _ _ o2 _) (fun h => absurd h (by decide)) (Nat.le_refl _) (Nat.le_refl _) (mk_lay hal o2 t2 (z8_ok (z8_ok ht 8) 8) c ?_)
  intro es3 o3 t3 f3
  have h3 : es3 159 = _ := o3
  simp only [ax_W_cons, ax_I, ax_cmp, ax_ii, ax_ll, ax_li, ax_st1, ax_st2, ax_kl, ax_k2, ax_fit, ax_rtok, List.getElem?_cons_zero, List.getElem?_cons_succ, List.length_cons, List.length_nil, List.set_cons_zero, List.set_cons_succ, Nat.reduceAdd, Nat.reduceDiv, Nat.reduceMod, Nat.reduceMul, Nat.reduceLT, Nat.reduceLeDiff, Int32.reduceOfInt, Int64.reduceOfInt, true_and, and_true, and_self, true_or, or_true, false_implies, true_implies, not_false_eq_true, not_true_eq_false, Value.category, Nat.reduceEqDiff, Option.toList, List.cons_append, List.nil_append, List.drop_succ_cons, List.drop_zero, ax_qq_eq, ax_t_1409, h3, mo_f, hal]
  exact hQ es3 o3 t3 (fun j hj => (f3 j hj).trans ((f2 j hj).trans ((f1 j hj).trans (ax_up_ne _ _ hj.1))))
end TT
