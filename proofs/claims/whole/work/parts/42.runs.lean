/-! the reference: beats one behind another; what holds of a state -/
def zv (k p C : Nat) (sh pl : Nat → Int32) : Prop := ks sh ∧ kpl k p pl ∧ C < 2 ^ k ∧ kcz k C sh
theorem zv_C12 {k p C : Nat} {sh pl : Nat → Int32} (hk : k ≤ 12) (h : zv k p C sh pl) : C < 2 ^ 12 := Nat.lt_of_lt_of_le h.2.2.1 (Nat.pow_le_pow_right (by decide) hk)
theorem zv_rip {F : Int32 → Int32 → Int32 → Int32 → Int32} {k p C m : Nat} {h t : Int32} {sh pl : Nat → Int32} (hk : k ≤ 12) (hm : m ≤ k) (hF : ∀ x0 x1 x2 x3, ∃ v, v ≤ 99 ∧ F x0 x1 x2 x3 = nI v) (hv : zv k p C sh pl) : zv k p C (kx_rip F k (nI C) h t sh m) pl := by
  obtain ⟨h1, h2, h3, h4⟩ := hv
  refine ⟨ks_rip hk hm hF h1, h2, h3, fun c hc hB => ?_⟩
  unfold kx_rip
  rw [kc_ck (by omega), hB, if_neg (by intro z; exact absurd z.2 (by decide))]
  exact h4 c hc hB
theorem zv_dr {F : Int32 → Int32 → Int32 → Int32 → Int32} {k p C hc T : Nat} {hs : Nat → Int32} {sh pl : Nat → Int32} (hk : k ≤ 12) (hF : ∀ x0 x1 x2 x3, ∃ v, v ≤ 99 ∧ F x0 x1 x2 x3 = nI v) (hv : zv k p C sh pl) : ∀ m, zv k p C (kx_dr F k (nI C) hs hc T sh m) pl
  | 0 => hv
  | m + 1 => zv_rip hk (Nat.le_refl _) hF (zv_dr hk hF hv m)
theorem zv_dh {F : Int32 → Int32 → Int32 → Int32 → Int32} {k p C T : Nat} {H : Nat → Bool} {sh pl : Nat → Int32} (hk : k ≤ 12) (hF : ∀ x0 x1 x2 x3, ∃ v, v ≤ 99 ∧ F x0 x1 x2 x3 = nI v) (hv : zv k p C sh pl) : ∀ m, zv k p C (kx_dh F k (nI C) H T sh m) pl
  | 0 => hv
  | m + 1 => zv_rip hk (Nat.le_refl _) hF (zv_dh hk hF hv m)
theorem zv_push {k p C c f : Nat} {sh pl : Nat → Int32} (hk : k ≤ 12) (hv : zv k p C sh pl) (hc : c < k) (hB : C.testBit c = false) (hf : f ≤ 20) : zv k p C (kx_push sh (nI c) (nI f)) pl := by
  obtain ⟨h1, h2, h3, h4⟩ := hv
  refine ⟨ks_push h1 (by omega) hf, h2, h3, fun i hi hB2 => ?_⟩
  unfold kx_push
  rw [nI_clamp (by omega), upd_ne _ _ (fun z => by rw [z, hB] at hB2; exact absurd hB2 (by decide))]
  exact h4 i hi hB2
theorem zv_soothe {k p C c : Nat} {sh pl : Nat → Int32} (hk : k ≤ 12) (hv : zv k p C sh pl) (hc : c < k) : zv k p C (kx_soothe sh (nI c)) pl := by
  obtain ⟨h1, h2, h3, h4⟩ := hv
  refine ⟨ks_soothe h1 (by omega), h2, h3, fun i hi hB2 => ?_⟩
  unfold kx_soothe
  rw [nI_clamp (by omega)]
  by_cases e : i = c
  · subst e
    rw [upd_same, h4 i hi hB2]
    decide
  · rw [upd_ne _ _ e]
    exact h4 i hi hB2
theorem zv_crack {k p C c : Nat} {sh pl : Nat → Int32} (hv : zv k p C sh pl) (hc : c < k) : zv k p (C ||| 2 ^ c) (upd sh c 0) pl := by
  obtain ⟨h1, h2, h3, h4⟩ := hv
  refine ⟨ks_zero h1, h2, Nat.or_lt_two_pow h3 (Nat.pow_lt_pow_right (by decide) hc), fun i hi hB2 => ?_⟩
  by_cases e : i = c
  · subst e
    exact upd_same ..
  · rw [upd_ne _ _ e]
    rw [Nat.testBit_or, Nat.testBit_two_pow] at hB2
    have e2 : ¬ c = i := fun z => e z.symm
    simp [e2] at hB2
    exact h4 i hi hB2
theorem zv_turn {k p C : Nat} {sh pl : Nat → Int32} (hk : k ≤ 12) (hv : zv k p C sh pl) : zv k p (kt_then k C k) (kx_turn k sh) pl := by
  obtain ⟨h1, h2, h3, h4⟩ := hv
  refine ⟨ks_turn hk h1, h2, kt_then_lt, fun i hi hB2 => ?_⟩
  rw [kt_then_bit i k (Nat.le_refl _)] at hB2
  simp [hi] at hB2
  unfold kx_turn
  rw [if_pos hi]
  exact h4 _ (by omega) hB2
theorem zv_exch {k p C i j : Nat} {sh pl : Nat → Int32} (hp : p ≤ 6) (hv : zv k p C sh pl) (hi : i < p) (hj : j < p) : zv k p C sh (kx_exch pl (nI i) (nI j)) := by
  obtain ⟨h1, h2, h3, h4⟩ := hv
  exact ⟨h1, kpl_exch h2 hi hj hp, h3, h4⟩
/-- the reference's court, its bounds -/
def mE (es : ax_H) (n k p hc : Nat) (kd pm ht hs : Nat → Int32) (F1 F2 : Int32 → Int32 → Int32 → Int32 → Int32) : Prop := ax_al n = 178 ∧ (3 ≤ k ∧ k ≤ 12) ∧ p ≤ 6 ∧ khs hc hs ∧ (∀ x0 x1 x2 x3, ∃ v, v ≤ 99 ∧ F1 x0 x1 x2 x3 = nI v) ∧ mK es k p hc kd pm ht hs F1 F2
def mS (es : ax_H) (st : Nat → Int32) (b k p T C : Nat) (sh pl dn : Nat → Int32) : Prop := mX es st ∧ mV st b k p T C sh pl dn ∧ zv k p C sh pl
/-- bits of what shakes, as a number -/
def kt_bits (sh : Nat → Int32) : Nat → Nat
  | 0 => 0
  | m + 1 => if 0 < sh m then kt_bits sh m ||| 2 ^ m else kt_bits sh m
theorem kt_bits_eq {sh : Nat → Int32} : ∀ m, m ≤ 31 → kx_bits sh m = nI (kt_bits sh m)
  | 0, _ => rfl
  | m + 1, hm => by
    rw [kx_bits, kt_bits, kt_bits_eq m (by omega), kc_shl (by omega), fa_or]
    split <;> rfl
theorem kt_bits_lt {sh : Nat → Int32} : ∀ m, kt_bits sh m < 2 ^ m
  | 0 => by
    show 0 < 2 ^ 0
    decide
  | m + 1 => by
    have ih := kt_bits_lt (sh := sh) m
    have h2 : 2 ^ m < 2 ^ (m + 1) := Nat.pow_lt_pow_right (by decide) (by omega)
    rw [kt_bits]
    split
    · exact Nat.or_lt_two_pow (by omega) h2
    · omega
theorem kt_full {k : Nat} (hk : k ≤ 12) : kx_full k = nI (2 ^ k - 1) := by
  have h : ∀ k : Fin 13, kx_full k.val = nI (2 ^ k.val - 1) := by decide +kernel
  exact h ⟨k, by omega⟩
theorem kt_not (x : Int32) : (x ^^^ -1).toBitVec = ~~~x.toBitVec := by
  rw [Int32.toBitVec_xor]
  have : (-1 : Int32).toBitVec = BitVec.allOnes 32 := by decide
  rw [this]
  exact BitVec.xor_allOnes
theorem kt_all1 {f c : Int32} (h : c &&& f = c) : (f &&& (c ^^^ -1) = 0) ↔ c = f := by
  rw [← Int32.toBitVec_inj, ← Int32.toBitVec_inj, Int32.toBitVec_and, kt_not]
  have h : c.toBitVec &&& f.toBitVec = c.toBitVec := by rw [← Int32.toBitVec_and, h]
  generalize c.toBitVec = c at *
  generalize f.toBitVec = f at *
  show f &&& ~~~c = 0#32 ↔ c = f
  constructor
  · intro e
    apply BitVec.eq_of_getLsbD_eq
    intro i hi
    have e1 := congrArg (fun x => x.getLsbD i) e
    have e2 := congrArg (fun x => x.getLsbD i) h
    simp [hi] at e1 e2
    cases hc : c.getLsbD i <;> cases hf : f.getLsbD i <;> simp_all
  · rintro rfl
    exact BitVec.and_not_self c
theorem kt_all2 {f c b : Int32} (h : c &&& f = c) (h' : b &&& f = b) : ((f &&& (c ^^^ -1)) &&& (b ^^^ -1) = 0) ↔ b ||| c = f := by
  rw [← Int32.toBitVec_inj, ← Int32.toBitVec_inj, Int32.toBitVec_and, Int32.toBitVec_and, kt_not, kt_not, Int32.toBitVec_or]
  have h : c.toBitVec &&& f.toBitVec = c.toBitVec := by rw [← Int32.toBitVec_and, h]
  have h' : b.toBitVec &&& f.toBitVec = b.toBitVec := by rw [← Int32.toBitVec_and, h']
  generalize c.toBitVec = c at *
  generalize f.toBitVec = f at *
  generalize b.toBitVec = b at *
  show f &&& ~~~c &&& ~~~b = 0#32 ↔ b ||| c = f
  constructor
  · intro e
    apply BitVec.eq_of_getLsbD_eq
    intro i hi
    have e1 := congrArg (fun x => x.getLsbD i) e
    have e2 := congrArg (fun x => x.getLsbD i) h
    have e3 := congrArg (fun x => x.getLsbD i) h'
    simp [hi] at e1 e2 e3
    rw [BitVec.getLsbD_or]
    cases hc : c.getLsbD i <;> cases hf : f.getLsbD i <;> cases hb : b.getLsbD i <;> simp_all
  · rintro rfl
    apply BitVec.eq_of_getLsbD_eq
    intro i hi
    rw [BitVec.getLsbD_and, BitVec.getLsbD_and, BitVec.getLsbD_not, BitVec.getLsbD_not, BitVec.getLsbD_or]
    cases hc : c.getLsbD i <;> cases hb : b.getLsbD i <;> simp [hi]
theorem kt_sub {C k : Nat} (hC : C < 2 ^ k) : nI C &&& nI (2 ^ k - 1) = nI C := by
  rw [fa_mask, Nat.mod_eq_of_lt hC]
section MM
variable {d n sl k p hc : Nat} {es : ax_H} {kd pm ht hs : Nat → Int32} {F1 F2 : Int32 → Int32 → Int32 → Int32 → Int32} {st : Nat → Int32} {b T C : Nat} {sh pl dn : Nat → Int32} {Q : Option Value → ax_H → Prop}
theorem mE_fr {es' : ax_H} (h : mE es n k p hc kd pm ht hs F1 F2) (hf : mfr es es') : mE es' n k p hc kd pm ht hs F1 F2 := by
  obtain ⟨h1, h2, h3, h4, h5, h6⟩ := h
  exact ⟨h1, h2, h3, h4, h5, mK_fr h6 hf⟩
theorem mE_rcv (h : mE es n k p hc kd pm ht hs F1 F2) (As : List Value) : ax_rcv n es 11 (.ref 159 :: As) := mO_rcv h.1 h.2.2.2.2.2.1 As
theorem mk_passesH (E : mE es n k p hc kd pm ht hs F1 F2) (S : mS es st b k p T C sh pl dn) (hb : b + 52 ≤ 1196) (h : Int32) (hQ : ∀ es' st', mfr es es' → mfs b st st' → mS es' st' b k p (T + 1) C (kx_rip F1 k (nI C) h (nI T) sh k) pl (kx_dns (kx_deed F2 k kd ht h (nI T) (kx_rip F1 k (nI C) h (nI T) sh k) pl) dn p) → Q (some (.int (kx_sum (kx_deed F2 k kd ht h (nI T) (kx_rip F1 k (nI C) h (nI T) sh k) pl) p))) es') : ax_Mt (d + 4) 1466 [.ref 159, .int (nI b), .int h] n sl es Q := by
  obtain ⟨hal, hk, hp, hhs, hF, hK⟩ := E
  obtain ⟨hX, hV, hv⟩ := S
  refine mk_passes2 hal hK hX (by omega) hk.2 hp hb hF hV (zv_C12 hk.2 hv) hv.2.1 hv.1 hv.2.2.2 h ?_
  intro es' st' f1 f2 f3 f4
  exact hQ es' st' f1 f3 ⟨f2, f4, zv_rip hk.2 (Nat.le_refl _) hF hv⟩
theorem mk_passes (E : mE es n k p hc kd pm ht hs F1 F2) (S : mS es st b k p T C sh pl dn) (hb : b + 52 ≤ 1196) (hT : T < 4000) (hQ : ∀ es' st', mfr es es' → mfs b st st' → mS es' st' b k p (T + 1) C (kx_rip F1 k (nI C) (hs (T % hc)) (nI T) sh k) pl (kx_dns (kx_deed F2 k kd ht (hs (T % hc)) (nI T) (kx_rip F1 k (nI C) (hs (T % hc)) (nI T) sh k) pl) dn p) → Q (some (.int (kx_sum (kx_deed F2 k kd ht (hs (T % hc)) (nI T) (kx_rip F1 k (nI C) (hs (T % hc)) (nI T) sh k) pl) p))) es') : ax_Mt (d + 5) 1467 [.ref 159, .int (nI b)] n sl es Q := by
  obtain ⟨hal, hk, hp, hhs, hF, hK⟩ := id E
  refine ax_Mt_go (m := ax_m_11_59) (ls := [some (.ref 159), some (.int (nI b))]) rfl ax_b_1467_0 (Nat.le_of_ble_eq_true rfl) rfl ?_
  simp only [ax_W_cons, ax_I, ax_cmp, ax_ii, ax_ll, ax_li, ax_st1, ax_st2, ax_kl, ax_k2, ax_fit, ax_rtok, List.getElem?_cons_zero, List.getElem?_cons_succ, List.length_cons, List.length_nil, List.set_cons_zero, List.set_cons_succ, Nat.reduceAdd, Nat.reduceDiv, Nat.reduceMod, Nat.reduceMul, Nat.reduceLT, Nat.reduceLeDiff, Int32.reduceOfInt, Int64.reduceOfInt, true_and, and_true, and_self, true_or, or_true, false_implies, true_implies, not_false_eq_true, not_true_eq_false, Value.category, Nat.reduceEqDiff, Option.toList, List.cons_append, List.nil_append, List.drop_succ_cons, List.drop_zero, ax_qq_eq, ax_t_1467]
  refine ax_inv_of (Nat.le_of_ble_eq_true rfl) (Nat.le_of_ble_eq_true rfl) (fun _ => mE_rcv E _) (fun h => absurd h (by decide)) (Nat.le_refl _) (Nat.le_refl _) (mk_heatOf hal hK S.1 hb ⟨hhs.1, hhs.2.1⟩ S.2.1.1 (by omega) ?_)
  simp only [ax_W_cons, ax_I, ax_cmp, ax_ii, ax_ll, ax_li, ax_st1, ax_st2, ax_kl, ax_k2, ax_fit, ax_rtok, List.getElem?_cons_zero, List.getElem?_cons_succ, List.length_cons, List.length_nil, List.set_cons_zero, List.set_cons_succ, Nat.reduceAdd, Nat.reduceDiv, Nat.reduceMod, Nat.reduceMul, Nat.reduceLT, Nat.reduceLeDiff, Int32.reduceOfInt, Int64.reduceOfInt, true_and, and_true, and_self, true_or, or_true, false_implies, true_implies, not_false_eq_true, not_true_eq_false, Value.category, Nat.reduceEqDiff, Option.toList, List.cons_append, List.nil_append, List.drop_succ_cons, List.drop_zero, ax_qq_eq, ax_t_1467]
  refine ax_inv_of (Nat.le_of_ble_eq_true rfl) (Nat.le_of_ble_eq_true rfl) (fun _ => mE_rcv E _) (fun h => absurd h (by decide)) (Nat.le_refl _) (Nat.le_refl _) (mk_passesH E S hb _ ?_)
  intro es' st' f1 f2 f3
  simp only [ax_W_cons, ax_I, ax_cmp, ax_ii, ax_ll, ax_li, ax_st1, ax_st2, ax_kl, ax_k2, ax_fit, ax_rtok, List.getElem?_cons_zero, List.getElem?_cons_succ, List.length_cons, List.length_nil, List.set_cons_zero, List.set_cons_succ, Nat.reduceAdd, Nat.reduceDiv, Nat.reduceMod, Nat.reduceMul, Nat.reduceLT, Nat.reduceLeDiff, Int32.reduceOfInt, Int64.reduceOfInt, true_and, and_true, and_self, true_or, or_true, false_implies, true_implies, not_false_eq_true, not_true_eq_false, Value.category, Nat.reduceEqDiff, Option.toList, List.cons_append, List.nil_append, List.drop_succ_cons, List.drop_zero, ax_qq_eq, ax_t_1467]
  exact hQ es' st' f1 f2 f3
/-- the trial goes on -/
theorem mk_runs (E : mE es n k p hc kd pm ht hs F1 F2) (S : mS es st 1092 k p T C sh pl dn) {m : Nat} (hT : T + m < 4000) (hQ : ∀ es' st', mfr es es' → mfs 1092 st st' → mS es' st' 1092 k p (T + m) C (kx_dr F1 k (nI C) hs hc T sh m) pl (kx_pdn (kx_dd F1 F2 k kd ht (nI C) hs hc T sh pl) p dn m) → Q none es') : ax_Mt (d + 6) 1484 [.ref 159, .int (nI m)] n sl es Q := by
  refine ax_Mt_go (m := ax_m_11_76) (ls := [some (.ref 159), some (.int (nI m)), none]) rfl ax_b_1484_0 (Nat.le_of_ble_eq_true rfl) rfl ?_
  simp only [ax_W_cons, ax_I, ax_cmp, ax_ii, ax_ll, ax_li, ax_st1, ax_st2, ax_kl, ax_k2, ax_fit, ax_rtok, List.getElem?_cons_zero, List.getElem?_cons_succ, List.length_cons, List.length_nil, List.set_cons_zero, List.set_cons_succ, Nat.reduceAdd, Nat.reduceDiv, Nat.reduceMod, Nat.reduceMul, Nat.reduceLT, Nat.reduceLeDiff, Int32.reduceOfInt, Int64.reduceOfInt, true_and, and_true, and_self, true_or, or_true, false_implies, true_implies, not_false_eq_true, not_true_eq_false, Value.category, Nat.reduceEqDiff, Option.toList, List.cons_append, List.nil_append, List.drop_succ_cons, List.drop_zero, ax_qq_eq, ax_t_1484]
  rw [ax_n_1484_2]
  have L := kx_loop (k := m) (I := fun c => ∀ es1 st1, mfr es es1 → mfs 1092 st st1 → mS es1 st1 1092 k p (T + c) C (kx_dr F1 k (nI C) hs hc T sh c) pl (kx_pdn (kx_dd F1 F2 k kd ht (nI C) hs hc T sh pl) p dn c) → ax_W (d + 6) n sl 1484 [(1, .iload 2), (1, .iload 1), (3, .if_icmp .ge 21), (1, .aload 0), (3, .iconst 1092), (3, .invokeinterface 1467 9), (1, .pop), (3, .iinc 2 1), (3, .goto 2)] 2 [some (.ref 159), some (.int (nI m)), some (.int (nI c))] [] n sl es1 (ax_qq n sl Q)) ?_ ?_
  · exact L es st (mfr_rf es) (mfs_rf _ st) S
  · intro es1 st1 i1 i2 i3
    have e0 := kx_nn (k := m) (by omega)
    simp only [ax_W_cons, ax_I, ax_cmp, ax_ii, ax_ll, ax_li, ax_st1, ax_st2, ax_kl, ax_k2, ax_fit, ax_rtok, List.getElem?_cons_zero, List.getElem?_cons_succ, List.length_cons, List.length_nil, List.set_cons_zero, List.set_cons_succ, Nat.reduceAdd, Nat.reduceDiv, Nat.reduceMod, Nat.reduceMul, Nat.reduceLT, Nat.reduceLeDiff, Int32.reduceOfInt, Int64.reduceOfInt, true_and, and_true, and_self, true_or, or_true, false_implies, true_implies, not_false_eq_true, not_true_eq_false, Value.category, Nat.reduceEqDiff, Option.toList, List.cons_append, List.nil_append, List.drop_succ_cons, List.drop_zero, ax_qq_eq, ax_t_1484, ax_j_1484_21, ax_n_1484_21, e0]
    exact hQ es1 st1 i1 i2 i3
  · intro c hc2 ih es1 st1 i1 i2 i3
    obtain ⟨e1, -, -, e4⟩ := kx_ix (N := 4000) hc2 (by omega) (by decide)
    have E1 := mE_fr E i1
    simp only [ax_W_cons, ax_I, ax_cmp, ax_ii, ax_ll, ax_li, ax_st1, ax_st2, ax_kl, ax_k2, ax_fit, ax_rtok, List.getElem?_cons_zero, List.getElem?_cons_succ, List.length_cons, List.length_nil, List.set_cons_zero, List.set_cons_succ, Nat.reduceAdd, Nat.reduceDiv, Nat.reduceMod, Nat.reduceMul, Nat.reduceLT, Nat.reduceLeDiff, Int32.reduceOfInt, Int64.reduceOfInt, true_and, and_true, and_self, true_or, or_true, false_implies, true_implies, not_false_eq_true, not_true_eq_false, Value.category, Nat.reduceEqDiff, Option.toList, List.cons_append, List.nil_append, List.drop_succ_cons, List.drop_zero, ax_qq_eq, ax_t_1484, e1]
    refine ax_inv_of (Nat.le_of_ble_eq_true rfl) (Nat.le_of_ble_eq_true rfl) (fun _ => mE_rcv E1 _) (fun h => absurd h (by decide)) (Nat.le_refl _) (Nat.le_refl _) (mk_passes E1 i3 (b := 1092) (by omega) (by omega) ?_)
    intro es2 st2 f1 f2 f3
    simp only [ax_W_cons, ax_I, ax_cmp, ax_ii, ax_ll, ax_li, ax_st1, ax_st2, ax_kl, ax_k2, ax_fit, ax_rtok, List.getElem?_cons_zero, List.getElem?_cons_succ, List.length_cons, List.length_nil, List.set_cons_zero, List.set_cons_succ, Nat.reduceAdd, Nat.reduceDiv, Nat.reduceMod, Nat.reduceMul, Nat.reduceLT, Nat.reduceLeDiff, Int32.reduceOfInt, Int64.reduceOfInt, true_and, and_true, and_self, true_or, or_true, false_implies, true_implies, not_false_eq_true, not_true_eq_false, Value.category, Nat.reduceEqDiff, Option.toList, List.cons_append, List.nil_append, List.drop_succ_cons, List.drop_zero, ax_qq_eq, ax_t_1484, e4]
    rw [ax_j_1484_2]
    exact ih es2 st2 (mfr_trans i1 f1) (mfs_trans i2 f2) f3
theorem mk_tries (E : mE es n k p hc kd pm ht hs F1 F2) (S : mS es st 0 k p T C sh pl dn) (hQ : ∀ es' st', mfr es es' → mfs 1092 st st' → mS es' st' 1092 k p T C sh pl dn → mS es' st' 0 k p T C sh pl dn → Q none es') : ax_Mt (d + 1) 1483 [.ref 159] n sl es Q := by
  obtain ⟨hal, hk, hp, hhs, hF, hK⟩ := id E
  refine mk_triesNow hal hK.1 S.1 hk.2 hp S.2.1 ?_
  intro es' st' f1 f2 f3 f4
  exact hQ es' st' f1 f3 ⟨f2, f4, S.2.2⟩ ⟨f2, mV_fs S.2.1 hk.2 hp f3 (by omega), S.2.2⟩
theorem mS_0 {es' : ax_H} {st' : Nat → Int32} {b' : Nat} (E : mE es n k p hc kd pm ht hs F1 F2) (S : mS es st 0 k p T C sh pl dn) (hb : 26 ≤ b') (hf : mfs b' st st') (hX : mX es' st') : mS es' st' 0 k p T C sh pl dn := ⟨hX, mV_fs S.2.1 E.2.1.2 E.2.2.1 hf (by omega), S.2.2⟩
theorem mk_doAllShake (E : mE es n k p hc kd pm ht hs F1 F2) (S : mS es st b k p T C sh pl dn) (hb : b + 52 ≤ 1196) (hQ : Q (some (.int (kx_b (kx_allsh k (nI C) sh)))) es) : ax_Mt (d + 2) 1481 [.ref 159, .int (nI b)] n sl es Q := by
  obtain ⟨hal, hk, hp, hhs, hF, hK⟩ := id E
  obtain ⟨⟨th, tp, sz, at0, fl, cd, nm, rm, on, fh, un, g, h0⟩, ct, op, ar, h1, h2, h3, hct, hL⟩ := id hK
  have x1 := S.1.1
  have e0 : nI b + 1 = nI (b + 1) := (nI_succ b).symm
  have v0 : vp_in (nI (b + 1)) 1196 := nI_in (by omega) (by decide)
  have f0 : (nI (b + 1)).toNatClampNeg = b + 1 := nI_clamp (by omega)
  have e3 := S.2.1.2.1
  have hb1 : kx_bits sh k &&& kx_full k = kx_bits sh k := by
    rw [kt_bits_eq k (by omega), kt_full hk.2]
    exact kt_sub (kt_bits_lt k)
  have hc1 : nI C &&& kx_full k = nI C := by
    rw [kt_full hk.2]
    exact kt_sub S.2.2.2.2.1
  have q1 := kt_all1 hc1
  have q2 := kt_all2 hc1 hb1
  have hf : (1 : Int32) <<< (nI k &&& 31) - 1 = kx_full k := rfl
  unfold kx_allsh at hQ
  refine ax_Mt_go (m := ax_m_11_73) (ls := [some (.ref 159), some (.int (nI b)), none]) rfl ax_b_1481_0 (Nat.le_of_ble_eq_true rfl) rfl ?_
  simp only [ax_W_cons, ax_I, ax_cmp, ax_ii, ax_ll, ax_li, ax_st1, ax_st2, ax_kl, ax_k2, ax_fit, ax_rtok, List.getElem?_cons_zero, List.getElem?_cons_succ, List.length_cons, List.length_nil, List.set_cons_zero, List.set_cons_succ, Nat.reduceAdd, Nat.reduceDiv, Nat.reduceMod, Nat.reduceMul, Nat.reduceLT, Nat.reduceLeDiff, Int32.reduceOfInt, Int64.reduceOfInt, true_and, and_true, and_self, true_or, or_true, false_implies, true_implies, not_false_eq_true, not_true_eq_false, Value.category, Nat.reduceEqDiff, Option.toList, List.cons_append, List.nil_append, List.drop_succ_cons, List.drop_zero, ax_qq_eq, ax_t_1481]
  refine ax_inv_of (Nat.le_of_ble_eq_true rfl) (Nat.le_of_ble_eq_true rfl) (fun _ => mE_rcv E _) (fun h => absurd h (by decide)) (Nat.le_refl _) (Nat.le_refl _) (mk_cells hal hK ?_)
  simp only [ax_W_cons, ax_I, ax_cmp, ax_ii, ax_ll, ax_li, ax_st1, ax_st2, ax_kl, ax_k2, ax_fit, ax_rtok, List.getElem?_cons_zero, List.getElem?_cons_succ, List.length_cons, List.length_nil, List.set_cons_zero, List.set_cons_succ, Nat.reduceAdd, Nat.reduceDiv, Nat.reduceMod, Nat.reduceMul, Nat.reduceLT, Nat.reduceLeDiff, Int32.reduceOfInt, Int64.reduceOfInt, true_and, and_true, and_self, true_or, or_true, false_implies, true_implies, not_false_eq_true, not_true_eq_false, Value.category, Nat.reduceEqDiff, Option.toList, List.cons_append, List.nil_append, List.drop_succ_cons, List.drop_zero, ax_qq_eq, ax_t_1481, ax_j_1481_40, ax_n_1481_40, ax_j_1481_41, ax_n_1481_41, h0, x1, mo_f, hal, e0, v0, f0, e3, hf, q1]
  refine ⟨fun h => ?_, fun h => ?_⟩
  · simp only [h, decide_true, Bool.not_true, Bool.false_and] at hQ
    exact hQ
  · refine ax_inv_of (Nat.le_of_ble_eq_true rfl) (Nat.le_of_ble_eq_true rfl) (fun _ => mE_rcv E _) (fun h => absurd h (by decide)) (Nat.le_refl _) (Nat.le_refl _) (mk_shaking hal hK S.1 hk.2 hb S.2.1 ?_)
    simp only [ax_W_cons, ax_I, ax_cmp, ax_ii, ax_ll, ax_li, ax_st1, ax_st2, ax_kl, ax_k2, ax_fit, ax_rtok, List.getElem?_cons_zero, List.getElem?_cons_succ, List.length_cons, List.length_nil, List.set_cons_zero, List.set_cons_succ, Nat.reduceAdd, Nat.reduceDiv, Nat.reduceMod, Nat.reduceMul, Nat.reduceLT, Nat.reduceLeDiff, Int32.reduceOfInt, Int64.reduceOfInt, true_and, and_true, and_self, true_or, or_true, false_implies, true_implies, not_false_eq_true, not_true_eq_false, Value.category, Nat.reduceEqDiff, Option.toList, List.cons_append, List.nil_append, List.drop_succ_cons, List.drop_zero, ax_qq_eq, ax_t_1481, ax_j_1481_40, ax_n_1481_40, ax_j_1481_41, ax_n_1481_41, q2]
    refine ⟨fun h2 => ?_, fun h2 => ?_⟩
    · simp only [h, h2, decide_false, Bool.not_false, Bool.true_and] at hQ
      exact hQ
    · simp only [Classical.not_not] at h2
      simp only [h, h2, decide_false, Bool.not_false, Bool.true_and, decide_true] at hQ
      exact hQ
end MM
