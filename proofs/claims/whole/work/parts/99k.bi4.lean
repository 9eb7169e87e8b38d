/-! builtin 4: the law's rests -/
section ZM
variable {p : Program} {l : Launch} {e : Env} {R : Room} {s : State} {m : MethodId} {args : Array Value} {below : List Frame} {meth : Method} {c : Code} {H : Heap} {locs : List Loc} {cells slots : Nat} {Q : State → Prop} {cc : ByteArray} {nL mc ms index : Nat} {rm : Room} {Pc : Array Value → State → Prop} {Qc : Array Value → State → Outcome → State → Prop} {free : Addr → Prop} {own : String} {As rest : List Value} {g : JFrame}
theorem zrunSW (hx : p.tables.exec = Jvm.exec) (hb : c.code = cc) (hml : c.maxLocals = nL) (ho : s.vm.findClass own = some m.cls) (hts : ∀ w ∈ ax_Tb, w.before args s = true) (hM : Met l yL_rests zLw rm Pc Qc mc ms free) (hrc : rm.cells = mc) (hrs : rm.slots = ms) (hR : rm.frames + 1 ≤ R.frames) (hRl : 8 + (7 + 11) + rm.locals ≤ R.locals) (hl : Cond.methodLink own index yL_rests ∈ lw_tbl) (hp : PreS s H Pc As)
    (hg : g.method = m) (hn : As.length = 6) (hsize : g.locals.size = nL) (hstack : g.stack = As.reverse ++ rest) (hW : 2 * g.monitorRoom + (rest.map fun v => v.category).sum ≤ 8) (hdg : decode cc g.pc = .ok (.invokestatic index, 3)) (hf : cells + mc ≤ R.cells ∧ slots + ms ≤ R.slots) :
    va_Run p l e R s m args below meth c H locs cells slots mc ms g rest (Qc As.toArray) free := by
  have hgood : ∀ w ∈ zLw, ∀ (a' : Array Value) (U : State), s.WarmedH U.vm → w.before a' U = true := by
    refine pay_in hts (fun w hw => ?_)
    rcases List.mem_cons.mp hw with rfl | h
    · exact ⟨ax_Tb_in zL_words.1 rfl, good_of_word rfl⟩
    · exact ⟨h, good_of_word (List.mem_filter.mp h).2⟩
  have hcode := hts _ (ax_Tb_in zL_words.1 rfl)
  have hini := hts _ (ax_Tb_in zL_words.2.1 rfl)
  have hstat := hts _ (ax_Tb_in zL_words.2.2 rfl)
  have hy : yL_rests.cls ≠ "java/lang/invoke/MethodHandle" ∧ yL_rests.cls ≠ "java/lang/invoke/VarHandle" := by decide +kernel
  have hK : Back l R p e below s args yL_rests 3 8 (PreOf R mc ms Pc) (PostOf Qc mc ms free) := va_backW (hh := [(0, 14, 17, 13)]) (bytes := method_3_code) (maxL := 7) (ret := some .int) hM hp.1 hrc hrs hR hRl hgood List.mem_cons_self (fun a' U hW => word_at hW (Or.inl rfl) hini)
  intro T hT X
  obtain ⟨mk, methM, cM, hnamed, hmethM, -, -, -, -, -, -, hsigM⟩ := Cond.codeWith_spec hcode
  have hstatic : methM.isStatic = true := Cond.static_spec hnamed hmethM hstat
  obtain ⟨kP, hkP, -⟩ := className_of_methodNamed hnamed
  have hinitP : kP.init = .initialized := Cond.initialized_spec (findClass_of_methodNamed hnamed) hkP hini
  obtain ⟨vm₁, X₁, hstep₁⟩ := X.invokestatic hx ho (hts _ (ax_Tb_in hl rfl)) hnamed hmethM hstatic hkP hinitP hy (g := g) hg (argsL := As) (rest := rest) (by
    have h5 : (parseMethodDescriptor yL_rests.desc).map (fun d => d.parameters.length) = some 6 := by decide +kernel
    rw [hsigM] at h5
    rw [hn]
    exact (Option.some.inj h5).symm) hstack (by rw [hb]; exact hdg)
  obtain ⟨v, ⟨U', l2, c2, s2⟩, X', ⟨g', mk', t, L, e1, e2, hq, h1, hL, h2, h3⟩, hsteps⟩ := hK m meth c ⟨T.setVm vm₁, locs, cells, slots⟩ { g with stack := rest } (.invokestatic index) mk As.toArray X₁ hg (hsize.trans hml.symm) (by rw [hb]; exact hdg) hW (X₁.named hnamed) ⟨hf.1, hf.2, hp.2 (T.setVm vm₁) hT X₁.warmed⟩
  dsimp only [Pt.U, Pt.locs, Pt.cells, Pt.slots] at X' e1 e2 h1 h2 h3 hsteps
  subst h1; subst h2; subst h3
  exact ⟨v, (T.setVm vm₁).calling g' mk' As.toArray, t, U', L, hT, X', hL, e1, e2, hq, fun target h => hstep₁ _ fun acts => by rw [doInvoke_state]; exact hsteps.trans h⟩
end ZM
section ZB4
variable {l : Launch} {Y : State → Prop} {b q1 v1 a1 a2 bs : Nat} {tA : Nat → ClassId} {D : va_G} {L : Nat} {xs : Nat → Int32}
set_option maxHeartbeats 1000000 in
theorem zB4 (htr : l.stackTraces = false) (hYz : ∀ U, Y U → zXx bs q1 v1 a1 a2 U) (hY1 : ∀ (U : State) (g : JFrame) (mk : MethodId) (a : Array Value), Y U → Y (U.calling g mk a)) (hY2 : ∀ U U' : State, Y U → U.WarmedH U'.vm → (∀ q, q < bs → U'.heap[q]? = U.heap[q]?) → Y U') : ax_Bt l (ax_sp b q1) bs tA D (ax_X0 b L xs bs q1 Y) L xs 4 := by
  obtain ⟨hXc, hXw, -⟩ := ax_X0_ok (b := b) (L := L) (xs := xs) (q1 := q1) hY1 hY2
  intro k d nb sb M i len rest pc ls st n sl es Q m hm hdec hln henc hchk hF p e R s mid args below meth c n0 sl0 QF hC hE H locs cells slots LS hSx hll hLr hlku
  obtain ⟨hx, hb, hml, hret, hlk, hini, hown0, hts, hK, hfr, hlo, hnb, hsb, hsz, hscr⟩ := id hC
  have hown : s.vm.findClass (ax_nm (M / 128)) = some mid.cls := by rw [← ax_m_cls hm]; exact hown0
  have nx : ∀ ls' st' n' sl' es' H' locs' cells' slots' LS', ax_S l (ax_sp b q1) bs tA D (ax_X0 b L xs bs q1 Y) L xs d nb sb M rest (pc + len) ls' st' n' sl' es' Q → ax_Sx (ax_sp b q1) bs tA D L xs nb sb n0 sl0 s n' sl' es' H' locs' cells' slots' → ls'.length = m.2.2.1 → ax_lr (ax_sp b q1) bs LS' ls' → W p l e R s mid args below meth c H' locs' cells' slots' QF (F0 mid (pc + len) LS' (st'.map (ax_v (ax_sp b q1) bs))) :=
    fun ls' st' n' sl' es' H' locs' cells' slots' LS' hk h1 h2 h3 => hk m hm hchk p e R s mid args below meth c n0 sl0 QF hC hE H' locs' cells' slots' LS' h1 h2 h3
  have h1 : 3 = len := hln.resolve_left (show ¬ (3 = 0) by decide)
  subst h1
  dsimp only [ax_enc] at henc
  rw [hlku] at henc
  cases henc
  have hw : Cond.methodLink (ax_nm (M / 128)) k yL_rests ∈ lw_tbl := ax_res_word hm hlku
  have hUK : ∀ U : State, U.heap = H → s.WarmedH U.vm → ax_Kn tA D (ax_X0 b L xs bs q1 Y) U ∧ ax_AR (ax_sp b q1) bs tA D L xs n es U.heap := fun U hU hW => ⟨ax_Kn_moved hXw hK hW (fun q hq => by rw [hU]; exact hSx.2.2.2.2.2.2.1 q (by have := hsz.1; omega) (by omega)), by rw [hU]; exact hSx.2.2.2.2.1⟩
  simp only [ax_I, ax_bi] at hF
  split at hF
  · next o p3 p2 p1 p0 x st' =>
    obtain ⟨hd1, hcat, hon, hxn, hF⟩ := hF
    have hrm : 2 * (F0 mid pc LS ((.ref o :: .int p3 :: .int p2 :: .int p1 :: .int p0 :: .ref x :: st').map (ax_v (ax_sp b q1) bs))).monitorRoom + ((st'.map (ax_v (ax_sp b q1) bs)).map fun v => v.category).sum ≤ 8 := by
      rw [ax_cat_map]
      have : (F0 mid pc LS ((.ref o :: .int p3 :: .int p2 :: .int p1 :: .int p0 :: .ref x :: st').map (ax_v (ax_sp b q1) bs))).monitorRoom = 0 := rfl
      omega
    split at hF
    · next fs hex =>
      split at hF
      · next f heo =>
        split at hF
        · next v hv =>
          have hn' : n ≤ nb := hSx.2.2.1
          have hsl' : sl ≤ sb := hSx.2.2.2.1
          exact ax_go (K := fun r n1 sl1 es1 => ax_S l (ax_sp b q1) bs tA D (ax_X0 b L xs bs q1 Y) L xs d nb sb M rest (pc + 3) ls (r.toList ++ st') n1 sl1 es1 Q) (zrunSW (nL := ls.length) (rest := st'.map (ax_v (ax_sp b q1) bs)) (As := ([.ref x, .int p0, .int p1, .int p2, .int p3, .ref o] : List Value).map (ax_v (ax_sp b q1) bs)) hx hb (hml.trans hll.symm) hown hts (zl_some (sl := sl) hv hxn hex hon heo (Nat.le_trans hn' hscr)) rfl rfl (by show 11 + 1 ≤ R.frames; omega) (by show 8 + (7 + 11) + 64 * 11 ≤ R.locals; omega) hw ⟨ax_blind hXc _ n es, fun U hU hW => ⟨rfl, (hUK U hU hW).1, (hUK U hU hW).2⟩⟩ rfl rfl hLr.1.1 rfl hrm hdec (by
            obtain ⟨a1, a2, a3, a4, -⟩ := hSx
            omega)) hSx hsz (Nat.le_refl _) (Nat.le_refl _) hn' hsl' (fun r n1 sl1 es1 h => by
              obtain ⟨rfl, rfl, rfl, rfl⟩ := h
              exact ⟨rfl, rfl, hF⟩) (fun r n1 sl1 es1 H1 locs1 cells1 slots1 hk hS1 => by rw [← ax_tl]; exact nx _ _ _ _ _ _ _ _ _ _ hk hS1 hll hLr)
        · next hv =>
          obtain ⟨hnf, hnb1, hsb1, hF⟩ := hF
          exact ax_go (K := fun r n1 sl1 es1 => ax_S l (ax_sp b q1) bs tA D (ax_X0 b L xs bs q1 Y) L xs d nb sb M rest (pc + 3) ls (r.toList ++ st') n1 sl1 es1 Q) (zrunSW (nL := ls.length) (rest := st'.map (ax_v (ax_sp b q1) bs)) (As := ([.ref x, .int p0, .int p1, .int p2, .int p3, .ref o] : List Value).map (ax_v (ax_sp b q1) bs)) hx hb (hml.trans hll.symm) hown hts (zl_none (sl := sl) htr (fun U hU => hYz U hU.2.2.2.2.2) hXw hv hxn hex hnf) rfl rfl (by show 11 + 1 ≤ R.frames; omega) (by show 8 + (7 + 11) + 64 * 11 ≤ R.locals; omega) hw ⟨ax_blind hXc _ n es, fun U hU hW => ⟨rfl, (hUK U hU hW).1, (hUK U hU hW).2⟩⟩ rfl rfl hLr.1.1 rfl hrm hdec (by
            obtain ⟨a1, a2, a3, a4, -⟩ := hSx
            omega)) hSx hsz (Nat.le_succ _) (Nat.le_add_right _ _) hnb1 hsb1 (fun r n1 sl1 es1 h => by
              obtain ⟨rfl, rfl, rfl, rfl⟩ := h
              exact ⟨rfl, rfl, hF⟩) (fun r n1 sl1 es1 H1 locs1 cells1 slots1 hk hS1 => by rw [← ax_tl]; exact nx _ _ _ _ _ _ _ _ _ _ hk hS1 hll hLr)
      · exact hF.elim
    · exact hF.elim
  · exact hF.elim
end ZB4
