/-! the making of the exception, and its throw -/
def zTst (n d : String) (bs : Nat) (U : State) : Prop := ∃ (c : ClassId) (k : Class) (i : Nat) (f : Field) (a : Nat) (cell : Cell) (v : Value), U.vm.findClass Bundle.tN = some c ∧ U.fieldFound? Bundle.tN n d = some (c, k, i, f) ∧ f.isStatic = true ∧ k.statics = some a ∧ U.heap[a]? = some cell ∧ cell.vm.isStatics = true ∧ cell.cls = c ∧ f.slot < cell.slots.size ∧ k.staticTypes[f.slot]? = some f.type ∧ cell.slots[f.slot]? = some v ∧ v.isRef = true ∧ a < bs
theorem zTst.of {n d : String} {bs : Nat} {args : Array Value} {s : State} (h1 : (Cond.laysStatic Bundle.tN n d).before args s = true) (h2 : (Cond.isRef (.static Bundle.tN n d)).before args s = true) (hb : s.heap.size ≤ bs) : zTst n d bs s := by
  obtain ⟨c, k, i, f, a, cell, k1, k2, k3, k4, k5, k6, k7, k8, k9⟩ := Cond.laysStatic_spec h1
  obtain ⟨v, hv, hr⟩ := Cond.isRef_spec h2
  obtain ⟨-, a', cell', e1, e2, -, e3⟩ := Term.static_spec k2 hv
  cases k4.symm.trans e1
  cases k5.symm.trans e2
  exact ⟨c, k, i, f, a, cell, v, k1, k2, k3, k4, k5, k6, k7, k8, k9, e3, hr, Nat.lt_of_lt_of_le (Array.getElem?_eq_some_iff.mp k5).1 hb⟩
theorem zTst.move {n d : String} {bs : Nat} {U U' : State} (h : zTst n d bs U) (hvm : U.vm.Alike U'.vm) (hq : ∀ q, q < bs → U'.heap[q]? = U.heap[q]?) : zTst n d bs U' := by
  obtain ⟨c, k, i, f, a, cell, v, k1, k2, k3, k4, k5, k6, k7, k8, k9, k10, k11, k12⟩ := h
  obtain ⟨k', hi', he⟩ := State.fieldFound?_setVm hvm k2
  exact ⟨c, k', i, f, a, cell, v, by rw [hvm.findClass]; exact k1, hi', k3, by rw [he]; exact k4, by rw [hq a k12]; exact k5, k6, k7, k8, by rw [he]; exact k9, k10, k11, k12⟩
theorem zTst.lays {n d : String} {bs : Nat} {U : State} (h : zTst n d bs U) (A : Array Value) : (Cond.laysStatic Bundle.tN n d).before A U = true := by
  obtain ⟨c, k, i, f, a, cell, v, k1, k2, k3, k4, k5, k6, k7, k8, k9, k10, k11, k12⟩ := h
  exact Cond.laysStatic_of k1 k2 k3 k4 k5 k6 k7 k8 k9
theorem zTst.isr {n d : String} {bs : Nat} {U : State} (h : zTst n d bs U) (A : Array Value) : (Cond.isRef (.static Bundle.tN n d)).before A U = true := by
  obtain ⟨c, k, i, f, a, cell, v, k1, k2, k3, k4, k5, k6, k7, k8, k9, k10, k11, k12⟩ := h
  have h1 : (Term.static Bundle.tN n d).eval A U none [] U = some v := Term.static_eval k2 k3 k4 k5 k6 k10
  cases v with
  | null => simp [Cond.before, Cond.holds, Cond.value, h1]
  | ref t => simp [Cond.before, Cond.holds, Cond.value, h1]
  | _ => simp [Value.isRef] at k11
def zXx (bs q1 v1 a1 a2 : Nat) (U : State) : Prop := zY bs q1 v1 U ∧ vk_R "ShakingCourt" 253 "no such serving" a1 U ∧ vk_R "ShakingCourt" 262 "no such rest" a2 U ∧ zTst zUs Bundle.steD bs U ∧ zTst zSs Bundle.listD bs U ∧ ∀ w ∈ zWs, w.before #[] U = true
theorem zW_t : ∀ w ∈ zWs, w.onTables = true ∧ w.keepsFace = true := List.forall_mem_cons.mpr ⟨⟨rfl, rfl⟩, List.forall_mem_cons.mpr ⟨⟨rfl, rfl⟩, List.forall_mem_cons.mpr ⟨⟨rfl, rfl⟩, List.forall_mem_cons.mpr ⟨⟨rfl, rfl⟩, fun _ h => by cases h⟩⟩⟩⟩
theorem zXx_c {bs q1 v1 a1 a2 : Nat} {U : State} (g : JFrame) (mk : MethodId) (a : Array Value) (h : zXx bs q1 v1 a1 a2 U) : zXx bs q1 v1 a1 a2 (U.calling g mk a) := by
  obtain ⟨h1, h2, h3, h4, h5, h6⟩ := h
  exact ⟨zY_c g mk a h1, vk_R.same (u := U) rfl h2, vk_R.same (u := U) rfl h3, h4.move (U' := U.calling g mk a) (Vm.Alike.refl U.vm) (fun _ _ => rfl), h5.move (U' := U.calling g mk a) (Vm.Alike.refl U.vm) (fun _ _ => rfl), fun w hw => va_tabs (u := U) (U := U.calling g mk a) (zW_t w hw).1 rfl (h6 w hw)⟩
theorem zXx_w {bs q1 v1 a1 a2 : Nat} {U U' : State} (h : zXx bs q1 v1 a1 a2 U) (hW : U.WarmedH U'.vm) (hq : ∀ q, q < bs → U'.heap[q]? = U.heap[q]?) : zXx bs q1 v1 a1 a2 U' := by
  obtain ⟨h1, h2, h3, h4, h5, h6⟩ := h
  exact ⟨zY_w h1 hW hq, vk_R.warm hW h2, vk_R.warm hW h3, h4.move hW.alike hq, h5.move hW.alike hq, fun w hw => va_tabs (u := U.setVm U'.vm) (U := U') (zW_t w hw).1 rfl (Cond.before_shiftedFace (State.Shifted.of_warmed hW) w (zW_t w hw).2 (h6 w hw))⟩
theorem zf_nse : Bundle.fit zNse = true ∧ (∀ n ∈ ["java/lang/RuntimeException", "java/lang/Exception"], Bundle.fit n = true) := by decide +kernel
section ZT
variable {p : Program} {l : Launch} {e : Env} {R : Room} {s : State} {m : MethodId} {args : Array Value} {below : List Frame} {meth : Method} {c : Code} {T0 : State} {locs : List Loc} {cells slots : Nat}
theorem z_throw {bs q1 v1 a1 a2 : Nat} (X : Stand p l e R s m args below meth c T0 locs cells slots) (hx : p.tables.exec = Jvm.exec) (htr : l.stackTraces = false) (hown : s.vm.findClass "ShakingCourt" = some m.cls) (hts : ∀ w ∈ ax_Tb, w.before args s = true) (hY : zXx bs q1 v1 a1 a2 s) (hbs : bs ≤ s.heap.size) (hL : ∀ q ∈ locs, bs ≤ q.base)
    {a : Nat} {cX : ClassId} {kX : Class} (hcX : s.vm.findClass zNse = some cX) (hkX : s.vm.classes[cX]? = some kX) (hfr : T0.heap[a]? = some (freshCell cX kX)) (hle : s.heap.size ≤ a) {msg : Value} (hmsg : msg.isRef = true) {pc : Nat} {ls : Array Slot} (hsz : ls.size = c.maxLocals) (hlocks : meth.locks = false)
    (hd1 : decode c.code pc = .ok (.invokespecial 255, 3)) (hd2 : decode c.code (pc + 3) = .ok (.athrow, 1)) (hno : ∀ x ∈ c.exceptionTable.toList, covers x (pc + 3) = false) (hR : 6 ≤ R.frames) (hRl : 128 ≤ R.locals) :
    ∃ (U : State) (ce : Cell) (L : List Loc), Steps p.tables e below (T0.setTop (F0 m pc ls [msg, .ref a, .ref a])) U ∧ U.status = .running ∧ Ended U below (.threw a) ∧ FrameEndT s (.threw a) U L cells slots ∧ (∀ q ∈ L, bs ≤ q.base) ∧ U.heap[a]? = some ce ∧ ce.cls = cX ∧ ce.vm = .none ∧ ∀ q, q ≠ a → U.heap[q]? = T0.heap[q]? := by
  have hm1 : e.platform.magicAccessors = ({} : Platform).magicAccessors := by rw [X.admits.platform]
  have hm2 : e.platform.frameOwnsMonitors = true := by rw [X.admits.platform]
  have hm3 : e.platform.finalization = false := by rw [X.admits.platform]
  have hm4 : e.platform.stackTraces = false := by rw [X.admits.platform]; exact htr
  obtain ⟨hY1, -, -, hU, hS, hWs⟩ := hY
  have hLs : ∀ w ∈ zLs, w.before args s = true := List.forall_mem_cons.mpr ⟨hU.lays args, List.forall_mem_cons.mpr ⟨hS.lays args, fun _ h => by cases h⟩⟩
  have hWs : ∀ w ∈ zWs, w.before args s = true := fun w hw => va_any (zW_t w hw).1 (hWs w hw)
  obtain ⟨T, Z0, hTL, hZ0, hTies⟩ := ThrowableC.of_atoms (args := args) (s := s) hm2 hm3 hm1 (fun w hw => (zA1 w hw).elim (hts w) (hLs w))
  obtain ⟨Z, M, hZ, hM, hnm⟩ := Init0T.ofS_atoms (args := args) hm1 hTL hTies (fun w hw => (zA2 w hw).elim (hts w) (hLs w))
  obtain ⟨P1, Ps, hlen, hP1, hPs, hn1, hsup, hpass⟩ := Bundle.chainSX (args := args) hm1 hnm dq_nse_0 dq_nse_1 dq_nse_2 dq_nse_5 ["java/lang/RuntimeException", "java/lang/Exception"] zNse zf_nse.1 zf_nse.2 (fun w hw => (zA3 w hw).elim (hts w) (hWs w))
  obtain ⟨cX', kX', i1, i2, i3, i4, i5, i6⟩ := Cond.instantiable_spec (hts _ zA_inst)
  cases hcX.symm.trans i1
  cases hkX.symm.trans i2
  obtain ⟨c1, r1, m1, f1, f2, f3, f4, -⟩ := Cond.selects_spec (hts _ zA_fill0)
  cases hcX.symm.trans f1
  cases f3.symm.trans hTies.fill0
  cases (State.methodFound?_of_named hTies.fill0 (by decide +kernel)).symm.trans f2
  obtain ⟨c2, r2, m2, g1, g2, g3, g4, -⟩ := Cond.selects_spec (hts _ zA_fill)
  cases hcX.symm.trans g1
  cases g3.symm.trans hTies.fill
  cases (State.methodFound?_of_named hTies.fill (by decide +kernel)).symm.trans g2
  obtain ⟨cu, ku, iu, fu, au, cellU, vu, u1, u2, u3, u4, u5, u6, u7, u8, u9, u10, u11, u12⟩ := hU
  cases u2.symm.trans hTies.unassigned
  cases u4.symm.trans hTL.statics
  obtain ⟨cv, kv, iv, fv, av, cellV, vv, v1', v2, v3, v4, v5, v6, v7, v8, v9, v10, v11, v12⟩ := hS
  cases v2.symm.trans hTies.sentinel
  cases v4.symm.trans hTL.statics
  cases u5.symm.trans v5
  obtain ⟨cS, s1, s2, s3, s4⟩ := X.same.2.2.2.2.2 T.aS cellU u5
  have s1 : T0.heap[T.aS]? = some cS := s1
  have hnl : ∀ i : Nat, ¬ (⟨T.aS, i⟩ : Loc) ∈ locs := fun i h => by
    have := hL _ h
    have : bs ≤ T.aS := this
    omega
  have hSv : cS.vm = cellU.vm := by rw [s2]
  have hSu : cS.vm ≠ VmData.unknown := fun h => by rw [← hSv, h] at u6; cases u6
  obtain ⟨j1, d1, j2, j3⟩ := Cond.laysAt hcX hkX hTies.cause (hts _ zA_cause)
  obtain ⟨j4, d2, j5, j6⟩ := Cond.laysAt hcX hkX hTies.stack (hts _ zA_stack)
  obtain ⟨j7, d3, j8, j9⟩ := Cond.laysAt hcX hkX hTies.supp (hts _ zA_supp)
  obtain ⟨im, hmf⟩ := hTies.msg
  obtain ⟨j10, d4, j11, j12⟩ := Cond.laysAt hcX hkX hmf (hts _ zA_msg)
  obtain ⟨ci, ib, fb, b1, b2, b3, b4, b5, b6, b7, b8⟩ := Cond.ownField (t := .object "java/lang/Object") hTies.found hTL.cls (by decide +kernel) (hts _ zA_b198) (hts _ zA_tback) e.platform hm1
  obtain ⟨j13, d5, j14, j15⟩ := Cond.laysAt hcX hkX b8 (hts _ zA_back)
  have ne1 : T.fCause.slot ≠ fb.slot := Cond.laysApart j2 j14 j3 j15 (by rw [hTies.causeName, b6]; decide)
  have ne2 : T.fStack.slot ≠ fb.slot := Cond.laysApart j5 j14 j6 j15 (by rw [hTies.stackName, b6]; decide)
  have ne3 : T.fSupp.slot ≠ fb.slot := Cond.laysApart j8 j14 j9 j15 (by rw [hTies.suppName, b6]; decide)
  have hb0 : (freshCell cX kX).slots[fb.slot]? = some .null := by
    rw [fresh_default j13, b7]; rfl
  have hskip : SkipFacts T e.platform s (fun u => u) ⟨vu, u11⟩ ((preparedCellV T.toThrowableT (freshCell cX kX) a ⟨vu, u11⟩ ⟨vv, v11⟩).withEntry T0.cur) := by
    refine ⟨⟨ci, ib, fb⟩, ⟨b1, b2, b3, b4⟩, ?_, fun _ _ => rfl⟩
    show ((((freshCell cX kX).slots.setIfInBounds T.fCause.slot (.ref a)).setIfInBounds T.fStack.slot vu).setIfInBounds T.fSupp.slot vv)[fb.slot]? = some .null
    rw [Array.getElem?_setIfInBounds_ne ne3, Array.getElem?_setIfInBounds_ne ne2, Array.getElem?_setIfInBounds_ne ne1]
    exact hb0
  obtain ⟨tm, methM, cdM, kM, vm1, n1, n2, n3, n4, n5, n6, n7, n8, hW1, hst1⟩ := Steps.initColdS (tb := p.tables) X.here hx X.warmed hm1 hown rfl rfl (by decide +kernel) (hts _ zA_link) (hts _ zA_im) (hts _ zA_code) (f := F0 m pc ls [msg, .ref a, .ref a]) rfl (rest := [.ref a]) rfl hd1
  cases n1.symm.trans hn1
  have X1 := X.noted hW1
  obtain ⟨vm2, X2, hst2⟩ := X1.ctorMessageOffV hx (g := F0 m pc ls [.ref a]) rfl hsz T hTL Z hZ M hM (P1 :: Ps) (fun P hP => (List.mem_cons.mp hP).elim (fun h => h ▸ hP1) (hPs P)) ⟨hsup, hpass⟩ (u0 := ⟨vu, u11⟩) (sen := ⟨vv, v11⟩) (self := a) (msg := msg) hmsg (cell := freshCell cX kX) (cellS := cS) hfr (fun k h => by cases h) (fun h => by cases h) rfl rfl
    (by rw [Launch.admits_selectMethod X.admits]; exact f4) (by rw [Launch.admits_selectMethod X.admits]; exact g4) s1 (Nat.ne_of_lt (Nat.lt_of_lt_of_le u12 (Nat.le_trans hbs hle))) hSu (by rw [s4 _ (hnl _)]; exact u10) (by rw [s4 _ (hnl _)]; exact v10)
    (Takes.of_laid hkX i3 j1 (by rw [hTies.causeType]; rfl)) (Takes.of_laid hkX i3 j4 (by rw [hTies.stackType]; exact fits_refV_array _ ⟨vu, u11⟩)) (Takes.of_laid hkX i3 j7 (by rw [hTies.suppType]; exact fits_refV_object _ ⟨vv, v11⟩)) (Takes.of_laid hkX i3 j10 (by rw [hTies.msgType]; exact fits_refV_object _ ⟨msg, hmsg⟩)) hTies.objLocals hskip hm4 [] hd1 (by rw [List.length_cons, hlen]; exact hR) (by
      rw [List.length_cons, hlen]
      show 0 + (1 + 0) + (13 * 3 + 42) ≤ R.locals
      omega)
  obtain ⟨w1, w2, w3, w4, w5⟩ := X2.athrowLeaves hx (g := F0 m (pc + 3) ls [.ref a]) rfl rfl rfl hno rfl hd2 hlocks
  have hlt : a < T0.heap.size := (Array.getElem?_eq_some_iff.mp hfr).1
  refine ⟨_, _, _, hst1 _ (fun acts => ?_), w2, w3, ⟨⟨a, rfl⟩, w4, w5⟩, ?_, heapAt_setCell_self _ hlt, rfl, rfl, fun q hq => State.heap_setCell_other (Ne.symm hq)⟩
  · rw [doInvoke_state]
    exact hst2 _ w1
  · intro q hq
    rcases List.mem_append.mp hq with h | h
    · exact hL q h
    · have : q.base = a := by
        simp only [List.mem_cons, List.not_mem_nil, or_false] at h
        rcases h with rfl | rfl | rfl | rfl | rfl <;> rfl
      rw [this]
      exact Nat.le_trans hbs hle
end ZT
