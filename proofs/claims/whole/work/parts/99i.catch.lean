/-! the law's rests: the call that throws is caught -/
def yL_rests : MethodName := ⟨"ShakingCourtLaw", "rests", "(LShakingCourt;IIII[J)I"⟩
def zLw : List Cond := Cond.codeWith yL_rests method_3_code 7 (some .int) [(0, 14, 17, 13)] :: ax_Tb
section ZV
variable {p : Program} {l : Launch} {e : Env} {R : Room} {s : State} {m : MethodId} {args : Array Value} {below : List Frame} {meth : Method} {c : Code} {H : Heap} {locs : List Loc} {cells slots : Nat} {Q : State → Prop} {cc bytes : ByteArray} {nL maxL index n d pc bs q1 v1 a1 a2 : Nat} {own : String} {y : MethodName} {ret : Option FieldType} {As rest : List Value} {ls : Array Slot} {r : Option Value}
theorem zcNV {b : Addr} {C : String} (hx : p.tables.exec = Jvm.exec) (hb : c.code = cc) (hml : c.maxLocals = nL) (hown : s.vm.findClass own = some m.cls) (hts : ∀ w ∈ ax_Tb, w.before args s = true) (hM : zN l bs d y bytes maxL ret (.ref b :: As) r) (hw : zJw y bytes maxL ret own index n) (hi : Cond.instanceMethod y ∈ lw_tbl) (hse : Cond.selects C y y ∈ lw_tbl) (hcell : ∃ cellB : Cell, H[b]? = some cellB ∧ cellB.vm.isStatics = false ∧ s.vm.findClass C = some cellB.cls) (hR : d + 1 ≤ R.frames) (hRl : 64 * (d + 1) ≤ R.locals) (hn : As.length = n) (hsize : ls.size = nL) (hcat : (rest.map fun v => v.category).sum ≤ 8) (hdg : decode cc pc = .ok (.invokevirtual index, 3)) (hf : cells ≤ R.cells ∧ slots ≤ R.slots) (hL : ∀ q ∈ locs, bs ≤ q.base) (kk : ∀ locs', (∀ q ∈ locs', bs ≤ q.base) → W p l e R s m args below meth c H locs' cells slots Q (F0 m (pc + 3) ls (r.toList ++ rest))) : W p l e R s m args below meth c H locs cells slots Q (F0 m pc ls (As.reverse ++ .ref b :: rest)) := by
  have hr := va_runV (g := F0 m pc ls (As.reverse ++ .ref b :: rest)) (rest := rest) (l := l) (e := e) (below := below) (meth := meth) (H := H) (locs := locs) (cells := cells) (slots := slots) (nL := nL) (Ts := ax_Tb) (own := own) (C := C) ⟨hx, hb, hml, hown, hts⟩ hM ⟨zJ_B hts hw hR hRl, hts _ (ax_Tb_in hi rfl), hts _ (ax_Tb_in hse rfl)⟩ ⟨zNP_b _, hcell, fun U hU hW => rfl⟩ rfl hn hsize rfl (by
    have : (F0 m pc ls (As.reverse ++ .ref b :: rest)).monitorRoom = 0 := rfl
    omega) hdg hf
  have e1 : As.reverse ++ .ref b :: rest = (Value.ref b :: As).reverse ++ rest := by rw [List.reverse_cons, List.append_assoc]; rfl
  rw [e1] at hr ⊢
  exact z_after hr hL kk
theorem zcT {b : Addr} {hp : Nat} (hx : p.tables.exec = Jvm.exec) (hb : c.code = cc) (hml : c.maxLocals = nL) (hown : s.vm.findClass "ShakingCourtLaw" = some m.cls) (hts : ∀ w ∈ ax_Tb, w.before args s = true)
    (hM : MetFree l yC_rests (headSpec zTw (ax_rm 6 1 6)) (zTP bs q1 v1 a1 a2 (.ref b :: As)) (fun _ _ _ _ _ => True) (zTQ bs))
    (hX : ∀ U : State, U.heap = H → s.WarmedH U.vm → zXx bs q1 v1 a1 a2 U) (hbs : bs ≤ H.size) (hcell : ∃ cellB : Cell, H[b]? = some cellB ∧ cellB.vm.isStatics = false ∧ s.vm.findClass "ShakingCourt" = some cellB.cls)
    (hR : 7 ≤ R.frames) (hRl : 448 ≤ R.locals) (hn : As.length = 4) (hsize : ls.size = nL) (hcat : (rest.map fun v => v.category).sum ≤ 8) (hdg : decode cc pc = .ok (.invokevirtual 7, 3)) (hf : cells + 1 ≤ R.cells ∧ slots + 6 ≤ R.slots)
    (hex : ∃ x : ExceptionTableEntry, c.exceptionTable.toList = [x] ∧ covers x pc = true ∧ x.handlerPc = hp ∧ x.catchType = 13)
    (kk : ∀ (x : Nat) (H' : Heap) (L : List Loc), H.size ≤ H'.size → (∀ q, q < H.size → H'[q]? = H[q]?) → (∀ q ∈ L, bs ≤ q.base) → W p l e R s m args below meth c H' (locs ++ L) (cells + 1) (slots + 6) Q (F0 m hp ls [.ref x])) : W p l e R s m args below meth c H locs cells slots Q (F0 m pc ls (As.reverse ++ .ref b :: rest)) := by
  obtain ⟨w1, w2, w3, w4, w5, w6⟩ := zj_rests
  have hgood := z_good hts w1
  have hini := hts _ (ax_Tb_in w2 rfl)
  have hK : BackT l R p e below s args yC_rests 3 8 (fun A a => A.cells + 1 ≤ R.cells ∧ A.slots + 6 ≤ R.slots ∧ zTP bs q1 v1 a1 a2 (.ref b :: As) a A.U) (fun A a x B => ∃ (g : JFrame) (mk : MethodId) (t : State) (L : List Loc), B.U.heap = t.heap ∧ zTQ bs a (A.U.calling g mk a) (.threw x) t ∧ B.locs = A.locs ++ L ∧ (∀ q ∈ L, bs ≤ q.base) ∧ B.cells = A.cells + 1 ∧ B.slots = A.slots + 6) := by
    refine BackT.of_free (S := headSpec zTw (ax_rm 6 1 6)) (P := zTP bs q1 v1 a1 a2 (.ref b :: As)) (K := fun _ _ _ _ _ => True) (Q := zTQ bs) (bytes := prog_1_method_39_code) (maxL := 7) (ret := some .int) (E := fun a st o t L k n => k = 1 ∧ n = 6 ∧ ∀ q ∈ L, bs ≤ q.base) hM hR (by show 8 + (7 + 11) + 64 * 6 ≤ R.locals; omega) ?_ ?_ (fun _ _ _ _ _ _ _ _ _ => trivial) ?_ ?_
    · intro m meth c A a X hp
      exact ⟨atoms_intro fun w hw => hgood w hw _ _ X.warmed, hgood _ List.mem_cons_self _ _ X.warmed, word_at X.warmed (Or.inl rfl) hini, hp.1, hp.2.1⟩
    · intro m meth c A a g mk X hp
      exact ⟨hp.2.2.1, zXx_c g mk a hp.2.2.2.1, hp.2.2.2.2⟩
    · rintro a st o t ⟨x, ce, L, -, -, -, -, -, -, -, hF, hL⟩
      exact ⟨L, 1, 6, hF, rfl, rfl, hL⟩
    · intro m meth c A a g mk v t L k n X hp hq hF ⟨e1, e2, hL⟩
      subst e1; subst e2
      exact ⟨g, mk, t, L, rfl, hq, rfl, hL, rfl, rfl⟩
  obtain ⟨cellB, hcB, hoB, hclB⟩ := hcell
  obtain ⟨xe, hx1, hx2, hx3, hx4⟩ := hex
  intro T hT X
  obtain ⟨mk, methM, hnamed, hmethM, hstM, habM⟩ := Cond.instanceMethod_spec (hts _ (ax_Tb_in zi_rests.1 rfl))
  obtain ⟨methM', cM, hmethM', -, -, -, -, -, -, hsigM⟩ := Cond.code_spec hnamed (hts _ (ax_Tb_in w1 rfl))
  cases hmethM.symm.trans hmethM'
  obtain ⟨c2, r2, m2, k1, k2, k3, k4, kP, hkP, hkPi⟩ := Cond.selects_spec (hts _ (ax_Tb_in zi_rests.2 rfl))
  cases hclB.symm.trans k1
  cases (State.methodFound?_of_named hnamed w4).symm.trans k2
  cases hnamed.symm.trans k3
  have hselP : selectMethod e.platform s.vm cellB.cls mk = .method mk := by rw [Launch.admits_selectMethod X.admits]; exact k4
  obtain ⟨vm₁, X₁, hstep₁⟩ := X.invokevirtual hx hown (hts _ (ax_Tb_in w3 rfl)) hnamed hmethM hstM hkP hkPi w4 (a := b) (cell := cellB) (by rw [hT]; exact hcB)
    (fun z h => by rw [h] at hoB; cases hoB) hselP hmethM habM hkP hkPi (g := F0 m pc ls (As.reverse ++ .ref b :: rest)) rfl (argsL := As) (rest := rest) (by
      rw [hsigM] at w5
      rw [hn]
      exact (Option.some.inj w5).symm) rfl (by rw [hb]; exact hdg)
  have hXT := hX (T.setVm vm₁) hT X₁.warmed
  obtain ⟨x, ⟨U', l2, c2, s2⟩, X', ⟨g', mk', t, L, e1, hq, e2, hL, e3, e4⟩, hsteps⟩ := hK m meth c ⟨T.setVm vm₁, locs, cells, slots⟩ (F0 m pc ls rest) (.invokevirtual 7) mk (Value.ref b :: As).toArray X₁ rfl (hsize.trans hml.symm) (by rw [hb]; exact hdg) (by
    have : (F0 m pc ls rest).monitorRoom = 0 := rfl
    show 2 * (F0 m pc ls rest).monitorRoom + (rest.map fun v => v.category).sum ≤ 8
    omega) (X₁.named hnamed) ⟨hf.1, hf.2, rfl, hXT, by show bs ≤ T.heap.size; rw [hT]; exact hbs⟩
  dsimp only [Pt.U, Pt.locs, Pt.cells, Pt.slots] at X' e1 e2 e3 e4 hsteps
  subst e2; subst e3; subst e4
  obtain ⟨x', ce, L', ho, h1, h2, h3, h4, h5, h6, -, -⟩ := hq
  cases ho
  have h3 : (T.setVm vm₁).vm.findClass zNse = some ce.cls := h3
  rw [X₁.warmed.alike.findClass] at h3
  have h5 : T.heap.size ≤ t.heap.size := h5
  have h6 : ∀ q, q < T.heap.size → t.heap[q]? = T.heap[q]? := h6
  obtain ⟨vm', X'', st⟩ := X'.thenCaughtLink x (g := F0 m pc ls rest) rfl (s₀ := T.setTop (F0 m pc ls (As.reverse ++ .ref b :: rest))) (hstep₁ _ (fun acts => by rw [doInvoke_state]; exact hsteps)) (own := "ShakingCourtLaw") (name := zNse) hown [] xe [] hx1 (fun y h => by cases h) hx2 (by rw [hx4]; decide) (by rw [hx4]; exact hts _ zA_catch) h3 (by rw [e1]; exact h2) (by rw [h4]; rfl) (va_asg _ _)
  obtain ⟨t2, r1, r2⟩ := kk x t.heap L (by rw [← hT]; exact h5) (fun q hq => by rw [← hT] at hq ⊢; exact h6 q hq) hL (U'.setVm vm') e1 X''
  rw [hx3] at st
  exact ⟨t2, st.trans r1, r2⟩
end ZV
