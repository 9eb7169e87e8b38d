/-! what is known at the law's start, and the whole walk -/
def zTm : Term := Term.string "ShakingCourt$Tokens" 71
theorem zn_el : ∀ j : Fin 132, (flatC (Jvm.Cond.and given_1 narrow_1))[55 + j.val]? = some (Cond.eq (.elem (.field zTm "java/lang/String" "value" "[B") (.int (Int32.ofNat j.val))) (.int (zyb.getD j.val 0))) := by decide +kernel
theorem zn_all : Cond.exactly zTm "java/lang/String" ∈ flatC (Jvm.Cond.and given_1 narrow_1) ∧ Cond.eq (.field zTm "java/lang/String" "coder" "B") (.int 0) ∈ flatC (Jvm.Cond.and given_1 narrow_1) ∧ Cond.arrayOf (.field zTm "java/lang/String" "value" "[B") .byte ∈ flatC (Jvm.Cond.and given_1 narrow_1) ∧ Cond.eq (.length (.field zTm "java/lang/String" "value" "[B")) (.int (Int32.ofNat 132)) ∈ flatC (Jvm.Cond.and given_1 narrow_1) := by decide +kernel
theorem zn_st : Cond.eq (.static "java/lang/String" "COMPACT_STRINGS" "Z") (.int 1) ∈ flatC (Jvm.Cond.and given_1 narrow_1) ∧ Cond.isRef (.static "jdk/internal/util/Preconditions" "SIOOBE_FORMATTER" "Ljava/util/function/BiFunction;") ∈ flatC (Jvm.Cond.and given_1 narrow_1) ∧ Cond.isRef (.static Bundle.tN zUs Bundle.steD) ∈ flatC (Jvm.Cond.and given_1 narrow_1) ∧ Cond.isRef (.static Bundle.tN zSs Bundle.listD) ∈ flatC (Jvm.Cond.and given_1 narrow_1) := by decide +kernel
theorem zn_ex : Cond.exactly (Term.string "ShakingCourt" 253) "java/lang/String" ∈ flatC (Jvm.Cond.and given_1 narrow_1) ∧ Cond.exactly (Term.string "ShakingCourt" 262) "java/lang/String" ∈ flatC (Jvm.Cond.and given_1 narrow_1) := by decide +kernel
set_option maxRecDepth 100000 in
theorem zn_w : Cond.laysStatic "java/lang/String" "COMPACT_STRINGS" "Z" ∈ lw_tbl ∧ Cond.initialized "java/lang/String" ∈ lw_tbl ∧ Cond.laysStatic "jdk/internal/util/Preconditions" "SIOOBE_FORMATTER" "Ljava/util/function/BiFunction;" ∈ lw_tbl ∧ Cond.initialized "jdk/internal/util/Preconditions" ∈ lw_tbl := ⟨List.mem_of_getElem? (i := 565) rfl, List.mem_of_getElem? (i := 107) rfl, List.mem_of_getElem? (i := 581) rfl, List.mem_of_getElem? (i := 109) rfl⟩
theorem zn_start {s : State} {b : Nat} (hts : ∀ w ∈ lw_tbl, w.before #[Value.ref b] s = true) (hgv : (Jvm.Cond.and given_1 narrow_1).before #[Value.ref b] s = true) : ∃ q1 v1 a1 a2 : Nat, vk_R "ShakingCourt$Tokens" 71 ax_words q1 s ∧ zXx s.heap.size q1 v1 a1 a2 s := by
  have hs := flat_of_before _ hgv
  have hA : ∀ a : Nat, a < s.heap.size → ¬ s.heap.size ≤ a := fun a h1 h2 => by omega
  obtain ⟨adK, adV, hS, hev⟩ := vk_Sof (args := #[Value.ref b]) (s := s) (N := 1) (tm := fun _ => zTm) (len := [132]) (byt := [zyb]) (A := fun q => s.heap.size ≤ q) (fun i hi => by rw [show i = 0 by omega]; decide) (fun i hi => hs _ zn_all.1) (fun i hi => hs _ zn_all.2.1) (fun i hi => hs _ zn_all.2.2.1) (fun i hi => by rw [show i = 0 by omega]; exact hs _ zn_all.2.2.2) (fun i hi j hj => by
      have h0 : i = 0 := by omega
      subst h0
      have hj : j < 132 := hj
      exact hs _ (List.mem_of_getElem? (zn_el ⟨j, hj⟩))) (fun i j hi hj h => absurd h (by omega)) hA
  have hq := hev 0 (by decide)
  have hS0 : vk_S 1 [132] [zyb] (fun _ => adK 0) (fun _ => adV 0) (fun q => s.heap.size ≤ q) s s.heap := ⟨fun i hi => by rw [show i = 0 by omega]; exact hS.1 0 (by decide), fun i j hi hj _ => by omega⟩
  have str : ∀ (own : String) (k : Nat), (Cond.exactly (Term.string own k) "java/lang/String").before #[Value.ref b] s = true → ∃ a, (Term.string own k).eval #[Value.ref b] s none [] s = some (.ref a) := by
    intro own k h
    cases hv : (Term.string own k).eval #[Value.ref b] s none [] s with
    | none => simp [Cond.before, Cond.holds, Cond.value, hv] at h
    | some v =>
      cases v with
      | ref a => exact ⟨a, rfl⟩
      | null =>
        simp only [Cond.before, Cond.holds, Cond.value, hv] at h
        cases hf : s.vm.findClass "java/lang/String" with
        | none => rw [hf] at h; simp at h
        | some _ => rw [hf] at h; simp at h
      | _ => simp [Cond.before, Cond.holds, Cond.value, hv] at h
  obtain ⟨a1, ha1⟩ := str _ _ (hs _ zn_ex.1)
  obtain ⟨a2, ha2⟩ := str _ _ (hs _ zn_ex.2)
  have hCS : va_Z "java/lang/String" "COMPACT_STRINGS" "Z" (.int 1) (fun q => s.heap.size ≤ q) s s.heap := va_Zof (hts _ zn_w.1) (hts _ zn_w.2.1) (va_eqi (hs _ zn_st.1)) hA
  have hFm : va_Zq "jdk/internal/util/Preconditions" "SIOOBE_FORMATTER" "Ljava/util/function/BiFunction;" (fun q => s.heap.size ≤ q) s s.heap := va_Zqof (hts _ zn_w.2.2.1) (hts _ zn_w.2.2.2) (hs _ zn_st.2.1) hA
  have hFm2 : ∃ v, va_Z "jdk/internal/util/Preconditions" "SIOOBE_FORMATTER" "Ljava/util/function/BiFunction;" v (fun q => s.heap.size ≤ q) s s.heap ∧ (v = .null ∨ ∃ a, v = .ref a) := by
    rcases hFm with h | ⟨t, h⟩
    · exact ⟨_, h, Or.inl rfl⟩
    · exact ⟨_, h, Or.inr ⟨t, rfl⟩⟩
  refine ⟨adK 0, adV 0, a1, a2, vk_R.of (hts _ zR_in.2.2) hq, ⟨hS0, hCS, hFm2⟩, vk_R.of (hts _ zR_in.1) ha1, vk_R.of (hts _ zR_in.2.1) ha2, zTst.of (hts _ zL_in.1) (hs _ zn_st.2.2.1) (Nat.le_refl _), zTst.of (hts _ zL_in.2.1) (hs _ zn_st.2.2.2) (Nat.le_refl _), fun w hw => va_any (zW_t w hw).1 (hts w (zW_in w hw))⟩
theorem whole_start {p : Program} {e : Env} {s : State} {m : MethodId} {below : List Frame} {meth : Method} {c : Code} (l : Launch) (hflags : l.flags = flags0) {b L : Nat} {xs : Nat → Int32} (hbd : L ≤ 3584) (C0 : lw_At p s m meth c b L xs) : W p l e room_1 s m #[Value.ref b] below meth c s.heap [] 0 0 (lw_Z below #[Value.ref b] s) (entryFrame m ([Value.ref b] : List Value).toArray 7) := by
  obtain ⟨-, -, -, -, -, hts, -, -, -, hgv⟩ := id C0
  obtain ⟨q1, v1, a1, a2, hq1, hX⟩ := zn_start hts hgv
  have htr : l.stackTraces = false := by
    unfold Launch.stackTraces
    rw [hflags]
    decide +kernel
  exact ax_top_open l C0 (Y := zXx s.heap.size q1 v1 a1 a2) hq1 hX (fun U g mk a h => zXx_c g mk a h) (fun U U' h hW hq => zXx_w h hW hq) (fun tA D => ⟨zB2 (v1 := v1) (fun U h => h.1), zB3 (v1 := v1) (fun U h => h.1), zB4 (v1 := v1) (a1 := a1) (a2 := a2) htr (fun U h => h) (fun U g mk a h => zXx_c g mk a h) (fun U U' h hW hq => zXx_w h hW hq)⟩) (fun es hes => lw_run hbd es hes)
