/-! the law's rests as a contract; builtin 4 -/
set_option maxRecDepth 100000 in
theorem zL_words : Cond.codeWith yL_rests method_3_code 7 (some .int) [(0, 14, 17, 13)] ∈ lw_tbl ∧ Cond.initialized yL_rests.cls ∈ lw_tbl ∧ Cond.static yL_rests ∈ lw_tbl := ⟨List.mem_of_getElem? (i := 1231) rfl, List.mem_of_getElem? (i := 91) rfl, List.mem_of_getElem? (i := 1230) rfl⟩
section ZL
variable {l : Launch} {sp : Nat → Nat} {bs : Nat} {tA : Nat → ClassId} {D : va_G} {X : State → Prop} {L : Nat} {xs : Nat → Int32} {x o n sl q1 v1 a1 a2 : Nat} {es : ax_H} {fs : List Value} {f : Nat → Int64} {p0 p1 p2 p3 : Int32}
theorem zl_cell {s : State} {H : Heap} (hK : ax_Kn tA D X s) (hA : ax_AR sp bs tA D L xs n es H) (hxn : x < ax_al n) (hex : es x = .inr (10, fs)) : ∃ cellB : Cell, H[bs + x]? = some cellB ∧ cellB.vm.isStatics = false ∧ s.vm.findClass "ShakingCourt" = some cellB.cls := by
  have he : (ax_ws sp bs tA (ax_al n) es)[x]? = some (bs + x, .inr (10, fs.map (ax_v sp bs))) := by rw [ax_ws_at _ _ _ _ hxn, hex]; rfl
  exact va_recv hK.1 hA.1 (ci := 10) rfl he
theorem zl_some {v : Int32} (hv : ax_rests p0 p1 p2 p3 = some v) (hxn : x < ax_al n) (hex : es x = .inr (10, fs)) (hon : o < ax_al n) (heo : es o = .inl (3, 1, .inr (.inl f))) (hn : n ≤ ax_scr) :
    Met l yL_rests zLw (ax_rm 11 (n - n) (sl - sl)) (ax_Pc sp bs tA D X L xs [.ref x, .int p0, .int p1, .int p2, .int p3, .ref o] n es) (ax_Qc sp bs tA D L xs n sl (fun r n' sl' es' => r = some (.int 0) ∧ n' = n ∧ sl' = sl ∧ es' = ax_up es o (.inl (3, 1, .inr (.inl (vp_updL f 0 v.toInt64)))))) (n - n) (sl - sl) (fun q => bs ≤ q) := by
  rw [Nat.sub_self, Nat.sub_self]
  refine va_MetW (cc := method_3_code) (maxL := 7) (ret := some .int) (hh := [(0, 14, 17, 13)]) (by decide +kernel) rfl ?_
  intro p e s m args below meth c s₁ B hml hP
  obtain ⟨ha, hK, hA⟩ := hP
  obtain rfl : args = List.toArray [.ref (bs + x), .int p0, .int p1, .int p2, .int p3, .ref (bs + o)] := ha
  have hx := B.exec
  have hb := B.bytes
  have hr := B.returns
  have hlocks := B.notSynchronized
  have hts0 := atoms_spec (ws := zLw) B.pre
  have hts : ∀ w ∈ ax_Tb, w.before (List.toArray [.ref (bs + x), .int p0, .int p1, .int p2, .int p3, .ref (bs + o)]) s = true := fun w hw => hts0 w (List.mem_cons_of_mem _ hw)
  have hown : s.vm.findClass "ShakingCourtLaw" = some m.cls := findClass_of_methodNamed B.named
  have hl := lv_entry ([.ref (bs + x), .int p0, .int p1, .int p2, .int p3, .ref (bs + o)]) (n := 7) (Nat.le_of_ble_eq_true rfl)
  have hrc := zl_cell hK hA hxn hex
  have he : (ax_ws sp bs tA (ax_al n) es)[o]? = some (bs + o, .inl (tA 3, 1, .inr (.inl f))) := by rw [ax_ws_at _ _ _ _ hon, heo]; rfl
  rw [lg_entry_eq]
  generalize (lg_sl ([.ref (bs + x), .int p0, .int p1, .int p2, .int p3, .ref (bs + o)]) ++ List.replicate (7 - (lg_sl ([.ref (bs + x), .int p0, .int p1, .int p2, .int p3, .ref (bs + o)])).length) Slot.unset).toArray = ls at hl ⊢
  have hl : lv_has ls 7 [(0, .ref (bs + x)), (1, .int p0), (2, .int p1), (3, .int p2), (4, .int p3), (5, .ref (bs + o))] := hl
  refine lv_aload hx hb dq_law_0 (lv_at hl 5 rfl) ?_
  refine lv_iconst hx hb dq_law_2 (v := 0) (by decide) ?_
  refine lv_aload_n hx hb dq_law_3 rfl (lv_at hl 0 rfl) ?_
  refine lv_iload_n hx hb dq_law_4 rfl (lv_at hl 1 rfl) ?_
  refine lv_iload_n hx hb dq_law_5 rfl (lv_at hl 2 rfl) ?_
  refine lv_iload_n hx hb dq_law_6 rfl (lv_at hl 3 rfl) ?_
  refine lv_iload hx hb dq_law_7 (lv_at hl 4 rfl) ?_
  refine zcNV (bs := bs) (d := 2) (As := [.int p0, .int p1, .int p2, .int p3]) (b := bs + x) (C := "ShakingCourt") (rest := [.int 0, .ref (bs + o)]) (nL := 7) hx hb hml hown hts (zc_rests hv) zj_rests zi_rests.1 zi_rests.2 hrc (Nat.le_of_ble_eq_true rfl) (Nat.le_of_ble_eq_true rfl) rfl hl.1 (Nat.le_of_ble_eq_true rfl) dq_law_9 ⟨Nat.le_refl _, Nat.le_refl _⟩ (fun q hq => by cases hq) (fun locs1 hL1 => ?_)
  refine lv_i2l hx hb dq_law_12 rfl ?_
  refine va_last hx hb hK.1 hA.1 (ax_ws_D sp bs tA (ax_al n) es) (show va_S (fun q => bs ≤ q) s.heap s.heap locs1 from ⟨Nat.le_refl _, fun _ _ _ => rfl, hL1⟩) o 3 he (ax_tys_at tA (by decide)) (show vp_in 0 1 from by unfold vp_in; decide) dq_law_13 (fun H1 locs2 hP1 hD1 hS1 => ?_)
  refine lv_goto hx hb dq_law_14 (tgt := 21) (by decide) ?_
  refine lv_iconst hx hb dq_law_21 (v := 0) (by decide) ?_
  refine ax_bound (fun hb1 => ?_)
  have hP1 : va_P D ax_cl (ax_ws sp bs tA (ax_al n) (ax_up es o (.inl (3, 1, .inr (.inl (vp_updL f 0 v.toInt64)))))) H1 := by
    rw [← ax_ws_set]
    exact hP1
  have hz := hS1.1
  refine W.iret hx hb hr (fun t ht _ => ⟨some (.int 0), n, sl, _, ⟨rfl, rfl, rfl, rfl⟩, Nat.le_refl _, Nat.le_refl _, rfl, ?_, by rw [ht]; exact hz, fun q hq => ?_⟩) hS1.2.2 dq_law_22
  · rw [ht]
    refine ⟨hP1, ⟨Nat.le_trans hA.2.1.1 hz, fun hn => ?_⟩, (ax_up_scr _ hon (Nat.le_refl _) hn).trans hA.2.2⟩
    have := hA.2.1.2 hn
    omega
  · rw [ht]
    have := hA.2.1.1
    exact hS1.2.1 q (by omega) (by omega)
theorem zl_none (htr : l.stackTraces = false) (hXx : ∀ U, X U → zXx bs q1 v1 a1 a2 U) (hXw : ∀ U U' : State, X U → U.WarmedH U'.vm → (∀ q, q < bs → U'.heap[q]? = U.heap[q]?) → X U') (hv : ax_rests p0 p1 p2 p3 = none) (hxn : x < ax_al n) (hex : es x = .inr (10, fs)) (hnf : ax_NF ≤ n) :
    Met l yL_rests zLw (ax_rm 11 (n + 1 - n) (sl + 6 - sl)) (ax_Pc sp bs tA D X L xs [.ref x, .int p0, .int p1, .int p2, .int p3, .ref o] n es) (ax_Qc sp bs tA D L xs (n + 1) (sl + 6) (fun r n' sl' es' => r = some (.int 1) ∧ n' = n + 1 ∧ sl' = sl + 6 ∧ es' = es)) (n + 1 - n) (sl + 6 - sl) (fun q => bs ≤ q) := by
  rw [Nat.add_sub_cancel_left, Nat.add_sub_cancel_left]
  refine va_MetW (cc := method_3_code) (maxL := 7) (ret := some .int) (hh := [(0, 14, 17, 13)]) (by decide +kernel) rfl ?_
  intro p e s m args below meth c s₁ B hml hP
  obtain ⟨ha, hK, hA⟩ := hP
  obtain rfl : args = List.toArray [.ref (bs + x), .int p0, .int p1, .int p2, .int p3, .ref (bs + o)] := ha
  have hx := B.exec
  have hb := B.bytes
  have hr := B.returns
  have hlocks := B.notSynchronized
  have hts0 := atoms_spec (ws := zLw) B.pre
  have hts : ∀ w ∈ ax_Tb, w.before (List.toArray [.ref (bs + x), .int p0, .int p1, .int p2, .int p3, .ref (bs + o)]) s = true := fun w hw => hts0 w (List.mem_cons_of_mem _ hw)
  have hown : s.vm.findClass "ShakingCourtLaw" = some m.cls := findClass_of_methodNamed B.named
  have hl := lv_entry ([.ref (bs + x), .int p0, .int p1, .int p2, .int p3, .ref (bs + o)]) (n := 7) (Nat.le_of_ble_eq_true rfl)
  have hrc := zl_cell hK hA hxn hex
  have hhx : ∃ x : ExceptionTableEntry, c.exceptionTable.toList = [x] ∧ covers x 9 = true ∧ x.handlerPc = 17 ∧ x.catchType = 13 := by
    obtain ⟨m9, meth9, c9, y1, y2, y3, y4, y5, y6, -⟩ := Cond.codeWith_spec (hts0 _ List.mem_cons_self)
    cases y1.symm.trans B.named
    cases y2.symm.trans B.method
    cases y3.symm.trans (Stand.of_body B).code
    cases h9 : c.exceptionTable.toList with
    | nil => rw [h9] at y6; cases y6
    | cons z zs =>
      rw [h9] at y6
      cases zs with
      | nil =>
        simp only [List.map_cons, List.map_nil, List.cons.injEq, Prod.mk.injEq, and_true] at y6
        obtain ⟨z1, z2, z3, z4⟩ := y6
        exact ⟨z, rfl, by unfold covers; rw [z1, z2]; decide, z3, z4⟩
      | cons z2 zs => simp at y6
  have hsz := hA.2.1.1
  rw [lg_entry_eq]
  generalize (lg_sl ([.ref (bs + x), .int p0, .int p1, .int p2, .int p3, .ref (bs + o)]) ++ List.replicate (7 - (lg_sl ([.ref (bs + x), .int p0, .int p1, .int p2, .int p3, .ref (bs + o)])).length) Slot.unset).toArray = ls at hl ⊢
  have hl : lv_has ls 7 [(0, .ref (bs + x)), (1, .int p0), (2, .int p1), (3, .int p2), (4, .int p3), (5, .ref (bs + o))] := hl
  refine lv_aload hx hb dq_law_0 (lv_at hl 5 rfl) ?_
  refine lv_iconst hx hb dq_law_2 (v := 0) (by decide) ?_
  refine lv_aload_n hx hb dq_law_3 rfl (lv_at hl 0 rfl) ?_
  refine lv_iload_n hx hb dq_law_4 rfl (lv_at hl 1 rfl) ?_
  refine lv_iload_n hx hb dq_law_5 rfl (lv_at hl 2 rfl) ?_
  refine lv_iload_n hx hb dq_law_6 rfl (lv_at hl 3 rfl) ?_
  refine lv_iload hx hb dq_law_7 (lv_at hl 4 rfl) ?_
  refine zcT (bs := bs) (As := [.int p0, .int p1, .int p2, .int p3]) (b := bs + x) (hp := 17) (rest := [.int 0, .ref (bs + o)]) (nL := 7) hx hb hml hown hts (zt_rests htr (bs := bs) (q1 := q1) (v1 := v1) (a1 := a1) (a2 := a2) (o := bs + x) hv) (fun U hU hW => hXx U (hXw s U hK.2.2 hW (fun q hq => by rw [hU]))) (by omega) hrc (Nat.le_of_ble_eq_true rfl) (Nat.le_of_ble_eq_true rfl) rfl hl.1 (Nat.le_of_ble_eq_true rfl) dq_law_9 ⟨Nat.le_refl _, Nat.le_refl _⟩ hhx (fun ex H1 L1 hz hlow hL1 => ?_)
  refine lv_astore hx hb dq_law_17 hl (by decide) rfl (fun ls1 hl1 => ?_)
  refine lv_iconst hx hb dq_law_19 (v := 1) (by decide) ?_
  have hal : ax_al (n + 1) = ax_al n := by
    show min (n + 1) ax_NF = min n ax_NF
    rw [Nat.min_eq_right hnf, Nat.min_eq_right (by omega)]
  refine W.iret hx hb hr (fun t ht _ => ⟨some (.int 1), n + 1, sl + 6, es, ⟨rfl, rfl, rfl, rfl⟩, Nat.le_refl _, Nat.le_refl _, rfl, ?_, by rw [ht]; exact hz, fun q hq => ?_⟩) hL1 dq_law_20
  · rw [ht]
    refine ⟨?_, ⟨?_, fun h => absurd h (by omega)⟩, hA.2.2⟩
    · rw [hal]
      exact hA.1.kept (fun k q hq => hlow q.1 (hA.1 k q hq).lt)
    · rw [hal]
      omega
  · rw [ht]
    exact hlow q (by omega)
end ZL
