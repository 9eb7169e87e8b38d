/-! ShakingCourt.rests as a contract: it returns, or it throws -/
def yC_rests : MethodName := ⟨"ShakingCourt", "rests", "(IIII)I"⟩
set_option maxRecDepth 100000 in
theorem zj_rests : zJw yC_rests prog_1_method_39_code 7 (some .int) "ShakingCourtLaw" 7 4 := ⟨List.mem_of_getElem? (i := 1236) rfl, List.mem_of_getElem? (i := 92) rfl, List.mem_of_getElem? (i := 1233) rfl, by decide +kernel, by decide +kernel, by decide⟩
set_option maxRecDepth 100000 in
theorem zi_rests : Cond.instanceMethod yC_rests ∈ lw_tbl ∧ Cond.selects "ShakingCourt" yC_rests yC_rests ∈ lw_tbl := ⟨List.mem_of_getElem? (i := 1234) rfl, List.mem_of_getElem? (i := 1235) rfl⟩
theorem zc_rests {l : Launch} {bs o : Nat} {b g0 g w v : Int32} (hv : ax_rests b g0 g w = some v) : zN l bs 2 yC_rests prog_1_method_39_code 7 (some .int) [.ref o, .int b, .int g0, .int g, .int w] (some (.int v)) := by
  refine va_MetF (cc := prog_1_method_39_code) (maxL := 7) (ret := some .int) (by decide +kernel) rfl ?_
  intro p e s m args below meth c s₁ B hml hP
  obtain rfl : args = List.toArray [.ref o, .int b, .int g0, .int g, .int w] := hP
  have hx := B.exec
  have hb := B.bytes
  have hr := B.returns
  have hlocks := B.notSynchronized
  have hts0 := atoms_spec (ws := Cond.code yC_rests prog_1_method_39_code 7 (some .int) :: ax_Tb) B.pre
  have hts : ∀ w' ∈ ax_Tb, w'.before (List.toArray [.ref o, .int b, .int g0, .int g, .int w]) s = true := fun w' hw => hts0 w' (List.mem_cons_of_mem _ hw)
  have hown : s.vm.findClass "ShakingCourt" = some m.cls := findClass_of_methodNamed B.named
  have hl := lv_entry ([.ref o, .int b, .int g0, .int g, .int w]) (n := 7) (Nat.le_of_ble_eq_true rfl)
  rw [lg_entry_eq]
  generalize (lg_sl ([.ref o, .int b, .int g0, .int g, .int w]) ++ List.replicate (7 - (lg_sl ([.ref o, .int b, .int g0, .int g, .int w])).length) Slot.unset).toArray = ls at hl ⊢
  refine zr_body (bs := bs) (o := o) hx hb hml hown hts (Nat.le_refl _) (Nat.le_refl _) ⟨Nat.le_refl _, Nat.le_refl _⟩ hl (fun v' hv' pc ls locs hd hL => ?_) (fun h => by rw [hv] at h; cases h)
  rw [hv] at hv'
  cases hv'
  exact W.iret hx hb hr (fun t ht _ => ⟨rfl, ht⟩) hL hd
/-- what is known behind its throw -/
def zTQ (bs : Nat) : Array Value → State → Outcome → State → Prop := fun _ st o t => ∃ (x : Nat) (ce : Cell) (L : List Loc), o = .threw x ∧ st.heap.size ≤ x ∧ t.heap[x]? = some ce ∧ st.vm.findClass zNse = some ce.cls ∧ ce.vm = .none ∧ st.heap.size ≤ t.heap.size ∧ (∀ q, q < st.heap.size → t.heap[q]? = st.heap[q]?) ∧ FrameEndT st o t L 1 6 ∧ ∀ q ∈ L, bs ≤ q.base
def zTP (bs q1 v1 a1 a2 : Nat) (As : List Value) : Array Value → State → Prop := fun a U => a = As.toArray ∧ zXx bs q1 v1 a1 a2 U ∧ bs ≤ U.heap.size
def zTw : List Cond := Cond.code yC_rests prog_1_method_39_code 7 (some .int) :: ax_Tb
theorem va_ldcSw {p : Program} {l : Launch} {e : Env} {R : Room} {s : State} {m : MethodId} {args : Array Value} {below : List Frame} {meth : Method} {c : Code} {H : Heap} {locs : List Loc} {cells slots : Nat} {Q : State → Prop} {cc : ByteArray} {pc : Nat} {ls : Array Slot} {rest : List Value} (hexec : p.tables.exec = Jvm.exec) (hb : c.code = cc) {own tx : String} {index q : Nat} (hown : s.vm.findClass own = some m.cls) (hZ : vk_R own index tx q s) (hdg : decode cc pc = .ok (.ldc_w index, 3))
    (k : W p l e R s m args below meth c H locs cells slots Q (F0 m (pc + 3) ls (.ref q :: rest))) : W p l e R s m args below meth c H locs cells slots Q (F0 m pc ls rest) := by
  intro T hT X
  obtain ⟨t, a1, b1⟩ := k T hT X
  exact ⟨t, X.ldcStringW hexec hown (text := tx) (a := q) hZ.1 hZ.2 (g := F0 m pc ls rest) rfl (by rw [hb]; exact hdg) t a1, b1⟩
theorem zt_rests {l : Launch} (htr : l.stackTraces = false) {bs q1 v1 a1 a2 o : Nat} {b g0 g w : Int32} (hv : ax_rests b g0 g w = none) : MetFree l yC_rests (headSpec zTw (ax_rm 6 1 6)) (zTP bs q1 v1 a1 a2 [.ref o, .int b, .int g0, .int g, .int w]) (fun _ _ _ _ _ => True) (zTQ bs) := by
  refine MetFree.of_bodySF (code := prog_1_method_39_code) (maxLocals := 7) (ret := some .int) (by decide +kernel) ?_ ?_
  · intro args s m h hn
    obtain ⟨meth, c, h1, h2, h3, h4, h5, h6, -, -⟩ := Cond.code_spec hn (atoms_spec (ws := zTw) h _ List.mem_cons_self)
    exact ⟨meth, c, h1, h2, h3, h4, h5, h6⟩
  · intro p e s m args below meth c s₁ B hml hP _
    obtain ⟨rfl, hX, hbs⟩ := hP
    have hx := B.exec
    have hb := B.bytes
    have hr := B.returns
    have hlocks := B.notSynchronized
    have hts0 := atoms_spec (ws := zTw) B.pre
    have hts : ∀ w' ∈ ax_Tb, w'.before (List.toArray [.ref o, .int b, .int g0, .int g, .int w]) s = true := fun w' hw => hts0 w' (List.mem_cons_of_mem _ hw)
    have hown : s.vm.findClass "ShakingCourt" = some m.cls := findClass_of_methodNamed B.named
    have hl := lv_entry ([.ref o, .int b, .int g0, .int g, .int w]) (n := 7) (Nat.le_of_ble_eq_true rfl)
    have hno : ∀ (pc : Nat), ∀ x ∈ c.exceptionTable.toList, covers x pc = false := by
      have h1 := B.noHandlers (hts0 _ List.mem_cons_self)
      intro pc x hx2
      rw [Array.isEmpty_iff.mp h1] at hx2
      cases hx2
    have hh0 : s₁.heap = s.heap := by rw [B.state]; rfl
    obtain ⟨cX, kX, i1, i2, -⟩ := Cond.instantiable_spec (hts _ zA_inst)
    have K : W p l e (headSpec zTw (ax_rm 6 1 6)).room s m (List.toArray [.ref o, .int b, .int g0, .int g, .int w]) below meth c s.heap [] 0 0 (fun t => ∃ o', t.status = .running ∧ Ended t below o' ∧ zTQ bs (List.toArray [.ref o, .int b, .int g0, .int g, .int w]) s o' t) (entryFrame m (List.toArray [.ref o, .int b, .int g0, .int g, .int w]) 7) := by
      rw [lg_entry_eq]
      generalize (lg_sl ([.ref o, .int b, .int g0, .int g, .int w]) ++ List.replicate (7 - (lg_sl ([.ref o, .int b, .int g0, .int g, .int w])).length) Slot.unset).toArray = ls at hl ⊢
      refine zr_body (bs := bs) (o := o) hx hb hml hown hts (by decide) (by decide) ⟨Nat.zero_le _, Nat.zero_le _⟩ hl (fun v' hv' => by rw [hv] at hv'; cases hv') (fun _ pc ls locs hpc hL hsz => ?_)
      have fin : ∀ (pc : Nat) (msg : Value), msg.isRef = true → decode prog_1_method_39_code pc = .ok (.invokespecial 255, 3) → decode prog_1_method_39_code (pc + 3) = .ok (.athrow, 1) → ∀ (H1 : Heap) (kC : Class), s.vm.classes[cX]? = some kC → H1[s.heap.size]? = some (blank cX kC) → H1.size = s.heap.size + 1 → (∀ q, q < s.heap.size → H1[q]? = s.heap[q]?) → W p l e (headSpec zTw (ax_rm 6 1 6)).room s m (List.toArray [.ref o, .int b, .int g0, .int g, .int w]) below meth c H1 locs (0 + 1) (0 + 6) (fun t => ∃ o', t.status = .running ∧ Ended t below o' ∧ zTQ bs (List.toArray [.ref o, .int b, .int g0, .int g, .int w]) s o' t) (F0 m pc ls [msg, .ref s.heap.size, .ref s.heap.size]) := by
        intro pc msg hmsg d1 d2 H1 kC hkC e1 z1 o1 T hT X
        obtain ⟨U, ce, L, t1, t2, t3, t4, t5, t6, t7, t8, t9⟩ := z_throw X hx htr hown hts hX hbs hL (a := s.heap.size) i1 hkC (by rw [hT]; exact e1) (Nat.le_refl _) hmsg (pc := pc) (ls := ls) (hsz.trans hml.symm) hlocks (by rw [hb]; exact d1) (by rw [hb]; exact d2) (hno _) (by decide) (by decide)
        refine ⟨U, t1, .threw s.heap.size, t2, t3, s.heap.size, ce, L, rfl, Nat.le_refl _, t6, by rw [t7]; exact i1, t8, ?_, fun q hq => ?_, t4, t5⟩
        · exact Nat.le_of_lt (Array.getElem?_eq_some_iff.mp t6).1
        · rw [t9 q (Nat.ne_of_lt hq), hT, o1 q hq]
      rcases hpc with rfl | rfl
      · refine W.newcK hx hb hown (hts _ zA_class) (hts _ zA_inst) (hts _ zA_init) rfl dq_rests_36 (by decide) (by decide) i1 rfl (fun H1 kC hkC e1 z1 o1 => ?_)
        refine lv_dup hx hb dq_rests_39 rfl ?_
        refine va_ldcS hx hb hown hX.2.1 dq_rests_40 ?_
        exact fin 42 _ rfl dq_rests_42 dq_rests_45 H1 kC hkC e1 z1 o1
      · refine W.newcK hx hb hown (hts _ zA_class) (hts _ zA_inst) (hts _ zA_init) rfl dq_rests_100 (by decide) (by decide) i1 rfl (fun H1 kC hkC e1 z1 o1 => ?_)
        refine lv_dup hx hb dq_rests_103 rfl ?_
        refine va_ldcSw hx hb hown hX.2.2.1 dq_rests_104 ?_
        exact fin 107 _ rfl dq_rests_107 dq_rests_110 H1 kC hkC e1 z1 o1
    obtain ⟨t, a1', o', b1, b2, b3⟩ := K s₁ hh0 (Stand.of_body B)
    exact ⟨t, o', a1', b1, b2, b3⟩
