/-! ShakingCourt.rests in the big machine: up to its return or its throw -/
def zRst : List (Int32 × Int32 × Int32) := [(0, 0, 0), (1, 0, 1), (2, 1, 0), (3, 1, 1)]
theorem zRst_at {k : Nat} (hk : k < 4) : zRst.drop k = (nI k, nI (k / 2), nI (k % 2)) :: zRst.drop (k + 1) := by
  rcases (show k = 0 ∨ k = 1 ∨ k = 2 ∨ k = 3 by omega) with rfl | rfl | rfl | rfl <;> decide
section ZR
variable {p : Program} {l : Launch} {e : Env} {R : Room} {s : State} {m : MethodId} {args : Array Value} {below : List Frame} {meth : Method} {c : Code} {H : Heap} {cells slots : Nat} {Q : State → Prop} {bs o : Nat} {b g0 g w : Int32}
theorem zr_at (hx : p.tables.exec = Jvm.exec) (hb : c.code = prog_1_method_39_code) (hml : c.maxLocals = 7) (hown : s.vm.findClass "ShakingCourt" = some m.cls) (hts : ∀ w ∈ ax_Tb, w.before args s = true) (hR : 2 ≤ R.frames) (hRl : 128 ≤ R.locals) (hf : cells ≤ R.cells ∧ slots ≤ R.slots)
    (Rr : Int32 ⊕ Int32) (kRet : ∀ pv, Rr = .inl pv → ∀ (ls : Array Slot) (locs : List Loc), (∀ q ∈ locs, bs ≤ q.base) → W p l e R s m args below meth c H locs cells slots Q (F0 m 84 ls [.int pv]))
    (kEnd : ∀ fd, Rr = .inr fd → ∀ (ls : Array Slot) (locs : List Loc), (∀ q ∈ locs, bs ≤ q.base) → lv_has ls 7 [(6, .int (nI 4)), (5, .int fd), (0, .ref o), (1, .int b), (2, .int g0), (3, .int g), (4, .int w)] → W p l e R s m args below meth c H locs cells slots Q (F0 m 94 ls [])) :
    ∀ (j k : Nat), k + j = 4 → ∀ (found : Int32) (ls : Array Slot) (locs : List Loc), ax_rfind b g0 g w (zRst.drop k) found = Rr → (∀ q ∈ locs, bs ≤ q.base) → lv_has ls 7 [(6, .int (nI k)), (5, .int found), (0, .ref o), (1, .int b), (2, .int g0), (3, .int g), (4, .int w)] → W p l e R s m args below meth c H locs cells slots Q (F0 m 52 ls []) := by
  intro j
  induction j with
  | zero =>
    intro k hk found ls locs hr hL hl
    have hk4 : k = 4 := by omega
    subst hk4
    refine lv_iload hx hb dq_rests_52 (lv_at hl 0 rfl) ?_
    refine lv_iconst hx hb dq_rests_54 (v := 4) (by decide) ?_
    refine lv_icmp_ge hx hb dq_rests_55 (tgt := 94) (by decide) (fun _ => ?_) (fun z => absurd (show (4 : Int32) ≤ nI 4 by decide) z)
    exact kEnd found hr.symm ls locs hL hl
  | succ j ih =>
    intro k hk found ls locs hr hL hl
    have hk4 : k < 4 := by omega
    rw [zRst_at hk4] at hr
    unfold ax_rfind at hr
    refine lv_iload hx hb dq_rests_52 (lv_at hl 0 rfl) ?_
    refine lv_iconst hx hb dq_rests_54 (v := 4) (by decide) ?_
    refine lv_icmp_ge hx hb dq_rests_55 (tgt := 94) (by decide) (fun z => absurd z ?_) (fun _ => ?_)
    · rcases (show k = 0 ∨ k = 1 ∨ k = 2 ∨ k = 3 by omega) with rfl | rfl | rfl | rfl <;> decide
    refine lv_iload hx hb dq_rests_58 (lv_at hl 0 rfl) ?_
    refine lv_iconst hx hb dq_rests_60 (v := 1) (by decide) ?_
    refine lv_ishr hx hb dq_rests_61 ?_
    refine lv_topi (fun x ex => ?_)
    have ex : x = nI (k / 2) := by
      rw [ex]
      rcases (show k = 0 ∨ k = 1 ∨ k = 2 ∨ k = 3 by omega) with rfl | rfl | rfl | rfl <;> decide
    subst ex
    refine lv_iload hx hb dq_rests_62 (lv_at hl 0 rfl) ?_
    refine lv_iconst hx hb dq_rests_64 (v := 1) (by decide) ?_
    refine lv_iand hx hb dq_rests_65 ?_
    refine lv_topi (fun x ex => ?_)
    have ex : x = nI (k % 2) := by
      rw [ex]
      rcases (show k = 0 ∨ k = 1 ∨ k = 2 ∨ k = 3 by omega) with rfl | rfl | rfl | rfl <;> decide
    subst ex
    refine lv_iload_n hx hb dq_rests_66 rfl (lv_at hl 3 rfl) ?_
    refine lv_iload_n hx hb dq_rests_67 rfl (lv_at hl 4 rfl) ?_
    refine lv_iload_n hx hb dq_rests_68 rfl (lv_at hl 5 rfl) ?_
    refine zcN (bs := bs) (d := 1) (As := [.int (nI (k / 2)), .int (nI (k % 2)), .int b, .int g0, .int g]) (rest := []) (nL := 7) hx hb hml hown hts (zc_isRest (nI (k / 2)) (nI (k % 2)) b g0 g) zj_isRest zs_all.2.2 hR hRl rfl hl.1 (Nat.le_of_ble_eq_true rfl) dq_rests_69 hf hL (fun locs1 hL1 => ?_)
    refine lv_if_eq hx hb dq_rests_72 (tgt := 88) (by decide) (fun z => ?_) (fun z => ?_)
    · have hz : ax_isRest (nI (k / 2)) (nI (k % 2)) b g0 g = false := by
        cases h9 : ax_isRest (nI (k / 2)) (nI (k % 2)) b g0 g with
        | false => rfl
        | true => rw [h9] at z; exact absurd z (by decide)
      rw [hz, if_neg (by decide)] at hr
      refine lv_iinc hx hb dq_rests_88 hl (k := 0) rfl (v := nI (k + 1)) ?_ (by decide) rfl (fun ls1 hl1 => ?_)
      · exact (nI_succ k).symm
      refine lv_goto hx hb dq_rests_91 (tgt := 52) (by decide) ?_
      exact ih (k + 1) (by omega) found ls1 locs1 hr hL1 hl1
    · have hz : ax_isRest (nI (k / 2)) (nI (k % 2)) b g0 g = true := by
        cases h9 : ax_isRest (nI (k / 2)) (nI (k % 2)) b g0 g with
        | true => rfl
        | false => rw [h9] at z; exact absurd rfl z
      rw [hz, if_pos rfl] at hr
      refine lv_iload hx hb dq_rests_75 (lv_at hl 1 rfl) ?_
      refine lv_iload hx hb dq_rests_77 (lv_at hl 6 rfl) ?_
      refine lv_icmp_ne hx hb dq_rests_79 (tgt := 85) (by decide) (fun y => ?_) (fun y => ?_)
      · rw [if_neg y] at hr
        refine lv_iinc hx hb dq_rests_85 hl (k := 1) rfl (v := found + 1) rfl (by decide) rfl (fun ls1 hl1 => ?_)
        refine lv_iinc hx hb dq_rests_88 hl1 (k := 1) rfl (v := nI (k + 1)) ?_ (by decide) rfl (fun ls2 hl2 => ?_)
        · exact (nI_succ k).symm
        refine lv_goto hx hb dq_rests_91 (tgt := 52) (by decide) ?_
        exact ih (k + 1) (by omega) (found + 1) ls2 locs1 hr hL1 hl2
      · rw [if_pos y] at hr
        refine lv_iload hx hb dq_rests_82 (lv_at hl 0 rfl) ?_
        exact kRet (nI k) hr.symm ls locs1 hL1
theorem zr_body (hx : p.tables.exec = Jvm.exec) (hb : c.code = prog_1_method_39_code) (hml : c.maxLocals = 7) (hown : s.vm.findClass "ShakingCourt" = some m.cls) (hts : ∀ w ∈ ax_Tb, w.before args s = true) (hR : 2 ≤ R.frames) (hRl : 128 ≤ R.locals) (hf : cells ≤ R.cells ∧ slots ≤ R.slots) {ls : Array Slot} (hl : lv_has ls 7 [(0, .ref o), (1, .int b), (2, .int g0), (3, .int g), (4, .int w)])
    (kRet : ∀ v, ax_rests b g0 g w = some v → ∀ (pc : Nat) (ls : Array Slot) (locs : List Loc), decode prog_1_method_39_code pc = .ok (.ireturn, 1) → (∀ q ∈ locs, bs ≤ q.base) → W p l e R s m args below meth c H locs cells slots Q (F0 m pc ls [.int v]))
    (kThr : ax_rests b g0 g w = none → ∀ (pc : Nat) (ls : Array Slot) (locs : List Loc), pc = 36 ∨ pc = 100 → (∀ q ∈ locs, bs ≤ q.base) → ls.size = 7 → W p l e R s m args below meth c H locs cells slots Q (F0 m pc ls [])) :
    W p l e R s m args below meth c H [] cells slots Q (F0 m 0 ls []) := by
  have no : ¬ (kx_in b 0 9 = true ∧ kx_in g0 0 9 = true ∧ kx_in g 0 9 = true ∧ ¬ w < -1) → ax_rests b g0 g w = none := by
    intro h
    unfold ax_rests
    rw [if_neg]
    intro h2
    refine h ⟨?_, ?_, ?_, h2.2.2.2⟩
    · simp [kx_in, h2.1]
    · simp [kx_in, h2.2.1]
    · simp [kx_in, h2.2.2.1]
  have tst : ∀ v : Int32, kx_b (kx_in v 0 9) = 0 → ¬ kx_in v 0 9 = true := fun v h h2 => by rw [h2] at h; exact absurd h (by decide)
  have tst2 : ∀ v : Int32, ¬ kx_b (kx_in v 0 9) = 0 → kx_in v 0 9 = true := fun v h => by
    cases h2 : kx_in v 0 9 with
    | true => rfl
    | false => rw [h2] at h; exact absurd rfl h
  refine lv_iload_n hx hb dq_rests_0 rfl (lv_at hl 1 rfl) ?_
  refine lv_iconst hx hb dq_rests_1 (v := 0) (by decide) ?_
  refine lv_bipush hx hb dq_rests_2 (v := 9) (by decide) ?_
  refine zcN (bs := bs) (d := 0) (As := [.int b, .int 0, .int 9]) (rest := []) (nL := 7) hx hb hml hown hts (zc_within b 0 9) zj_within zs_all.1 (by omega) (by omega) rfl hl.1 (Nat.le_of_ble_eq_true rfl) dq_rests_4 hf (fun q hq => by cases hq) (fun locs1 hL1 => ?_)
  refine lv_if_eq hx hb dq_rests_7 (tgt := 36) (by decide) (fun z => kThr (no (fun h => tst _ z h.1)) 36 ls locs1 (Or.inl rfl) hL1 hl.1) (fun z1 => ?_)
  refine lv_iload_n hx hb dq_rests_10 rfl (lv_at hl 2 rfl) ?_
  refine lv_iconst hx hb dq_rests_11 (v := 0) (by decide) ?_
  refine lv_bipush hx hb dq_rests_12 (v := 9) (by decide) ?_
  refine zcN (bs := bs) (d := 0) (As := [.int g0, .int 0, .int 9]) (rest := []) (nL := 7) hx hb hml hown hts (zc_within g0 0 9) zj_within zs_all.1 (by omega) (by omega) rfl hl.1 (Nat.le_of_ble_eq_true rfl) dq_rests_14 hf hL1 (fun locs2 hL2 => ?_)
  refine lv_if_eq hx hb dq_rests_17 (tgt := 36) (by decide) (fun z => kThr (no (fun h => tst _ z h.2.1)) 36 ls locs2 (Or.inl rfl) hL2 hl.1) (fun z2 => ?_)
  refine lv_iload_n hx hb dq_rests_20 rfl (lv_at hl 3 rfl) ?_
  refine lv_iconst hx hb dq_rests_21 (v := 0) (by decide) ?_
  refine lv_bipush hx hb dq_rests_22 (v := 9) (by decide) ?_
  refine zcN (bs := bs) (d := 0) (As := [.int g, .int 0, .int 9]) (rest := []) (nL := 7) hx hb hml hown hts (zc_within g 0 9) zj_within zs_all.1 (by omega) (by omega) rfl hl.1 (Nat.le_of_ble_eq_true rfl) dq_rests_24 hf hL2 (fun locs3 hL3 => ?_)
  refine lv_if_eq hx hb dq_rests_27 (tgt := 36) (by decide) (fun z => kThr (no (fun h => tst _ z h.2.2.1)) 36 ls locs3 (Or.inl rfl) hL3 hl.1) (fun z3 => ?_)
  refine lv_iload hx hb dq_rests_30 (lv_at hl 4 rfl) ?_
  refine lv_iconst hx hb dq_rests_32 (v := -1) (by decide) ?_
  refine lv_icmp_ge hx hb dq_rests_33 (tgt := 46) (by decide) (fun z4 => ?_) (fun z => kThr (no (fun h => h.2.2.2 (Int32.not_le.mp z))) 36 ls locs3 (Or.inl rfl) hL3 hl.1)
  have hyes : ax_rests b g0 g w = (match ax_rfind b g0 g w zRst 0 with | .inl p => some p | .inr found => if w = -1 then some found else none) := by
    have k1 := tst2 _ z1
    have k2 := tst2 _ z2
    have k3 := tst2 _ z3
    simp only [kx_in, Bool.and_eq_true, decide_eq_true_eq] at k1 k2 k3
    unfold ax_rests
    rw [if_pos ⟨k1, k2, k3, Int32.not_lt.mpr z4⟩]
    rfl
  refine lv_iconst hx hb dq_rests_46 (v := 0) (by decide) ?_
  refine lv_istore hx hb dq_rests_47 hl (by decide) rfl (fun ls1 hl1 => ?_)
  refine lv_iconst hx hb dq_rests_49 (v := 0) (by decide) ?_
  refine lv_istore hx hb dq_rests_50 hl1 (by decide) rfl (fun ls2 hl2 => ?_)
  generalize hRr : ax_rfind b g0 g w zRst 0 = Rr at hyes
  refine zr_at (bs := bs) (o := o) (b := b) (g0 := g0) (g := g) (w := w) hx hb hml hown hts hR hRl hf Rr (fun pv hp ls locs hL => ?_) (fun fd hp ls locs hL hl => ?_) 4 0 rfl 0 ls2 locs3 hRr hL3 hl2
  · rw [hp] at hyes
    exact kRet pv hyes 84 ls locs dq_rests_84 hL
  · rw [hp] at hyes
    refine lv_iload hx hb dq_rests_94 (lv_at hl 6 rfl) ?_
    refine lv_iconst hx hb dq_rests_96 (v := -1) (by decide) ?_
    refine lv_icmp_eq hx hb dq_rests_97 (tgt := 111) (by decide) (fun z => ?_) (fun z => ?_)
    · refine lv_iload hx hb dq_rests_111 (lv_at hl 1 rfl) ?_
      refine kRet fd (hyes.trans ?_) 113 ls locs dq_rests_113 hL
      show (if w = -1 then some fd else none) = some fd
      rw [if_pos z]
    · refine kThr (hyes.trans ?_) 100 ls locs (Or.inr rfl) hL hl.1
      show (if w = -1 then some fd else none) = none
      rw [if_neg z]
end ZR
