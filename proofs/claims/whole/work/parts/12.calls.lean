/-! calls and returns -/
def ax_Pc (sp : Nat → Nat) (bs : Nat) (tA : Nat → ClassId) (D : va_G) (X : State → Prop) (L : Nat) (xs : Nat → Int32) (vs : List Value) (n : Nat) (es : ax_H) : Array Value → State → Prop := fun a U => a = (vs.map (ax_v sp bs)).toArray ∧ ax_Kn tA D X U ∧ ax_AR sp bs tA D L xs n es U.heap
def ax_Qc (sp : Nat → Nat) (bs : Nat) (tA : Nat → ClassId) (D : va_G) (L : Nat) (xs : Nat → Int32) (nb sb : Nat) (R : ax_Q) : Array Value → State → Outcome → State → Prop := fun _ st o t => ∃ r n' sl' es', R r n' sl' es' ∧ n' ≤ nb ∧ sl' ≤ sb ∧ o = .returned (r.map (ax_v sp bs)) ∧ ax_AR sp bs tA D L xs n' es' t.heap ∧ st.heap.size ≤ t.heap.size ∧ ∀ q, q < bs → t.heap[q]? = st.heap[q]?
def ax_wsM (m : ax_M) : List Cond := Cond.code m.1 m.2.1 m.2.2.1 m.2.2.2.1 :: ax_Tb
def ax_rm (d mc ms : Nat) : Room := { frames := d, cells := mc, slots := ms, locals := 64 * d }
section AXMET
variable {l : Launch} {sp : Nat → Nat} {bs : Nat} {tA : Nat → ClassId} {D : va_G} {X : State → Prop} {L : Nat} {xs : Nat → Int32}
theorem ax_met {d nb sb M n sl : Nat} {es : ax_H} {R : ax_Q} {m : ax_M} {code : List (Nat × Instr)} {vs : List Value} (hm : ax_m M = some m) (hblk : ax_blk M 0 = some code) (hlen : (ax_ent vs).length ≤ m.2.2.1)
    (hS : ax_S l sp bs tA D X L xs d nb sb M code 0 (ax_pad (ax_ent vs) m.2.2.1) [] n sl es R) (hn : n ≤ nb) (hsl : sl ≤ sb) (hscr : nb ≤ ax_scr) :
    Met l m.1 (ax_wsM m) (ax_rm d (nb - n) (sb - sl)) (ax_Pc sp bs tA D X L xs vs n es) (ax_Qc sp bs tA D L xs nb sb R) (nb - n) (sb - sl) (fun q => bs ≤ q) := by
  refine va_MetF (cc := m.2.1) (maxL := m.2.2.1) (ret := m.2.2.2.1) (ax_plain hm) rfl ?_
  intro p e s mid a below meth c s₁ B hml hv
  obtain ⟨rfl, hK, hA⟩ := hv
  have hts := atoms_spec (ws := ax_wsM m) B.pre
  have hC : ax_Cx bs tA D X d nb sb m p (headSpec (ax_wsM m) (ax_rm d (nb - n) (sb - sl))).room s mid (vs.map (ax_v sp bs)).toArray meth c n sl :=
    ⟨B.exec, B.bytes, hml, B.returns, B.notSynchronized, fun h => (name_of_methodNamed B.named B.method).1.trans h, findClass_of_methodNamed B.named, fun w hw => hts w (List.mem_cons_of_mem _ hw), hK, Nat.le_refl _, Nat.le_refl _, (Nat.add_sub_cancel' hn).symm, (Nat.add_sub_cancel' hsl).symm, hA.2.1, hscr⟩
  rw [lg_entry_eq]
  refine hS m hm (ax_blk_chk hm hblk) p e _ s mid _ below meth c n sl _ hC ?_ s.heap [] 0 0 _ ⟨rfl, rfl, hn, hsl, hA, va_S.rf⟩ (by simp [ax_pad]; omega) (ax_lr_entry sp bs vs hlen)
  intro r n' sl' es' H' locs' cells' slots' pc' LS' hR hrok hSx hdec
  obtain ⟨a1, a2, a3, a4, a5, a6⟩ := hSx
  refine W.widen (k := nb - n) (n := sb - sl) (by omega) (by omega) ?_
  have hsz := hA.2.1.1
  have hq : ∀ t : State, t.heap = H' → s.WarmedH t.vm → ax_Qc sp bs tA D L xs nb sb R (vs.map (ax_v sp bs)).toArray s (.returned (r.map (ax_v sp bs))) t := fun t ht _ => ⟨r, n', sl', es', hR, a3, a4, rfl, by rw [ht]; exact a5, by rw [ht]; exact a6.1, fun q hq => by rw [ht]; exact a6.2.1 q (by omega) (by omega)⟩
  have hlocks := B.notSynchronized
  cases r with
  | none => exact W.vret B.exec B.bytes (B.returns.trans hrok) hq (fun q h => a6.2.2 q h) hdec
  | some v =>
    have hB := B.returns
    cases v with
    | ref k =>
      obtain ⟨nm, hnm⟩ := hrok
      exact W.aret B.exec B.bytes (hB.trans hnm) (Or.inl ⟨nm, rfl⟩) (Or.inr ⟨bs + k, rfl⟩) hq (fun q h => a6.2.2 q h) hdec
    | int x =>
      have hrok : ax_rtok m.2.2.2.1 (.int x) := hrok
      unfold ax_rtok at hrok
      split at hrok
      · next h1 h2 =>
        exact W.iret B.exec B.bytes (hB.trans h1) hq (fun q h => a6.2.2 q h) hdec
      · next y h1 h2 =>
        cases h2
        exact W.zret (ty := .boolean) B.exec B.bytes (hB.trans h1) (by rcases hrok with rfl | rfl <;> decide) hq (fun q h => a6.2.2 q h) hdec
      · exact hrok.elim
    | _ =>
      exfalso
      have hrok : ax_rtok m.2.2.2.1 _ := hrok
      unfold ax_rtok at hrok
      split at hrok <;> first | exact hrok | (next h => cases h)
end AXMET
theorem ax_np_spec {M : Nat} {m : ax_M} (hm : ax_m M = some m) (h : ax_np M < 1000) : ∀ sig, parseMethodDescriptor m.1.desc = some sig → ax_np M = sig.parameters.length := by
  intro sig hs
  unfold ax_np
  rw [hm]
  dsimp only
  rw [hs]
theorem ax_call_spec {kind : Nat} {v : Int} {i : Instr} (h : ax_call kind v = some i) : ax_kind v.toNat = kind ∧ v.toNat / 128 ≠ 12 ∧ ax_np v.toNat < 1000 ∧ i = .invokeinterface v.toNat ((ax_np v.toNat + (if kind = 0 then 0 else 1)) * 4 + kind) := by
  unfold ax_call at h
  split at h
  · next hh => cases h; exact ⟨hh.1, hh.2.1, hh.2.2, rfl⟩
  · cases h
theorem ax_kind_at {M : Nat} {m : ax_M} (hm : ax_m M = some m) : ax_kind M = m.2.2.2.2.1 := by
  unfold ax_kind
  rw [hm]
theorem ax_y_at {M : Nat} {m : ax_M} (hm : ax_m M = some m) : ax_y M = m.1 := by
  unfold ax_y
  rw [hm]
theorem ax_good_ws {args : Array Value} {s : State} {m : ax_M} (hts : ∀ w ∈ ax_Tb, w.before args s = true) (hW : ax_okW m) : ∀ w ∈ ax_wsM m, ∀ (a' : Array Value) (U : State), s.WarmedH U.vm → w.before a' U = true := by
  refine pay_in hts (fun w hw => ?_)
  rcases List.mem_cons.mp hw with rfl | h
  · exact ⟨ax_Tb_in hW.1 rfl, good_of_word rfl⟩
  · exact ⟨h, good_of_word (List.mem_filter.mp h).2⟩
def ax_Bx (l : Launch) (sp : Nat → Nat) (bs : Nat) (tA : Nat → ClassId) (D : va_G) (X : State → Prop) (L : Nat) (xs : Nat → Int32) (b k : Nat) (ri : Instr) : Prop :=
  ∀ (d nb sb M : Nat) (i : Instr) (len : Nat) (rest : List (Nat × Instr)) (pc : Nat) (ls : ax_L) (st : List Value) (n sl : Nat) (es : ax_H) (Q : ax_Q) (m : ax_M), ax_m M = some m → decode m.2.1 pc = .ok (ri, len) → (ax_ln ri = 0 ∨ ax_ln ri = len) → ax_enc (M / 128) pc (decide (m.1.name = "<init>")) ri = some i → ax_chk (M / 128) (decide (m.1.name = "<init>")) m.2.1 (pc + len) rest = true →
    ax_I (ax_S l sp bs tA D X L xs) d nb sb M i ls st n sl es Q (fun ls st n sl es => ax_S l sp bs tA D X L xs d nb sb M rest (pc + len) ls st n sl es Q) →
    ∀ (p : Program) (e : Env) (R : Room) (s : State) (mid : MethodId) (args : Array Value) (below : List Frame) (meth : Method) (c : Code) (n0 sl0 : Nat) (QF : State → Prop), ax_Cx bs tA D X d nb sb m p R s mid args meth c n0 sl0 → ax_Ed l sp bs tA D L xs nb sb m Q p e R s mid args below meth c n0 sl0 QF →
    ∀ (H : Heap) (locs : List Loc) (cells slots : Nat) (LS : Array Slot), ax_Sx sp bs tA D L xs nb sb n0 sl0 s n sl es H locs cells slots → ls.length = m.2.2.1 → ax_lr sp bs LS ls → (ax_res (M / 128)).lookup k = some (3, (b : Int)) → W p l e R s mid args below meth c H locs cells slots QF (F0 mid pc LS (st.map (ax_v sp bs)))
/-- a builtin: what is to be shown of it -/
def ax_Bt (l : Launch) (sp : Nat → Nat) (bs : Nat) (tA : Nat → ClassId) (D : va_G) (X : State → Prop) (L : Nat) (xs : Nat → Int32) (b : Nat) : Prop := ∀ k : Nat, ax_Bx l sp bs tA D X L xs b k (.invokestatic k)
def ax_Bt2 (l : Launch) (sp : Nat → Nat) (bs : Nat) (tA : Nat → ClassId) (D : va_G) (X : State → Prop) (L : Nat) (xs : Nat → Int32) (b : Nat) : Prop := ∀ k : Nat, ax_Bx l sp bs tA D X L xs b k (.invokevirtual k)
section AXCALL
variable {l : Launch} {sp : Nat → Nat} {bs : Nat} {tA : Nat → ClassId} {D : va_G} {X : State → Prop} {L : Nat} {xs : Nat → Int32}
theorem ax_blind (hXc : ∀ (U : State) (g : JFrame) (mk : MethodId) (a : Array Value), X U → X (U.calling g mk a)) (vs : List Value) (n : Nat) (es : ax_H) : FrameBlind (ax_Pc sp bs tA D X L xs vs n es) :=
  fun a U g mk ⟨h1, ⟨k1, k2, k3⟩, h3⟩ => ⟨h1, ⟨va_K.moved (u := U) (U := U.calling g mk a) (Vm.Alike.refl U.vm) k1, fun a1 i1 x1 h1 hm => va_Nw.same (u := U) rfl rfl (k2 a1 i1 x1 h1 hm), hXc U g mk a k3⟩, h3⟩
theorem ax_Kn_moved (hXw : ∀ U U' : State, X U → U.WarmedH U'.vm → (∀ q, q < bs → U'.heap[q]? = U.heap[q]?) → X U') {s U : State} (h : ax_Kn tA D X s) (hW : s.WarmedH U.vm) (hq : ∀ q, q < bs → U.heap[q]? = s.heap[q]?) : ax_Kn tA D X U :=
  ⟨va_K.moved hW.alike h.1, fun a i x z hm => va_Nw.warmM hW (h.2.1 a i x z hm), hXw s U h.2.2 hW hq⟩
/-- behind the call's run -/
theorem ax_go {p : Program} {e : Env} {Rm : Room} {s : State} {mid : MethodId} {args : Array Value} {below : List Frame} {meth : Method} {c : Code} {H : Heap} {locs : List Loc} {cells slots : Nat} {QF : State → Prop} {pc : Nat} {LS : Array Slot} {st0 rest : List Value} {a : Array Value}
    {nb sb nb' sb' n0 sl0 n sl : Nat} {es : ax_H} {R' : ax_Q} {K : Option Value → Nat → Nat → ax_H → Prop}
    (hr : va_Run p l e Rm s mid args below meth c H locs cells slots (nb' - n) (sb' - sl) (F0 mid pc LS st0) rest (ax_Qc sp bs tA D L xs nb' sb' R' a) (fun q => bs ≤ q))
    (hSx : ax_Sx sp bs tA D L xs nb sb n0 sl0 s n sl es H locs cells slots) (hsz : bs + ax_al n0 ≤ s.heap.size ∧ (n0 ≤ ax_NF → s.heap.size = bs + n0)) (hn' : n ≤ nb') (hsl' : sl ≤ sb') (hnb' : nb' ≤ nb) (hsb' : sb' ≤ sb) (hpost : ∀ r n' sl' es', R' r n' sl' es' → n' = nb' ∧ sl' = sb' ∧ K r n' sl' es')
    (kk : ∀ r n' sl' es' H' locs' cells' slots', K r n' sl' es' → ax_Sx sp bs tA D L xs nb sb n0 sl0 s n' sl' es' H' locs' cells' slots' → W p l e Rm s mid args below meth c H' locs' cells' slots' QF (F0 mid (pc + 3) LS ((r.map (ax_v sp bs)).toList ++ rest))) :
    W p l e Rm s mid args below meth c H locs cells slots QF (F0 mid pc LS st0) := by
  refine ax_after hr (fun v st₀ t Lc h0 hq hL => ?_)
  obtain ⟨r, n', sl', es', hR, hn2, hsl2, ho, hA2, hgrow, hlow⟩ := hq
  rw [h0] at hgrow
  cases ho
  obtain ⟨e1, e2, hk⟩ := hpost r n' sl' es' hR
  obtain ⟨a1, a2, a3, a4, a5, a6⟩ := hSx
  refine kk r n' sl' es' _ _ _ _ hk ⟨by omega, by omega, by omega, by omega, hA2, ?_⟩
  refine ⟨Nat.le_trans a6.1 hgrow, fun q h1 h2 => ?_, fun q hq => ?_⟩
  · rw [hlow q (by omega), h0]
    exact a6.2.1 q h1 h2
  · rcases List.mem_append.mp hq with h | h
    · exact a6.2.2 q h
    · exact hL q h
theorem ax_tl (r : Option Value) (st : List Value) : (r.toList ++ st).map (ax_v sp bs) = (r.map (ax_v sp bs)).toList ++ st.map (ax_v sp bs) := by
  cases r <;> rfl
theorem ax_td (st : List Value) (k : Nat) : st = (st.take k).reverse.reverse ++ st.drop k := by
  rw [List.reverse_reverse, List.take_append_drop]
set_option maxHeartbeats 1000000 in
theorem ax_st_invokestatic (hXc : ∀ (U : State) (g : JFrame) (mk : MethodId) (a : Array Value), X U → X (U.calling g mk a)) (hXw : ∀ U U' : State, X U → U.WarmedH U'.vm → (∀ q, q < bs → U'.heap[q]? = U.heap[q]?) → X U') (hB1 : ax_Bt l sp bs tA D X L xs 1) (hB4 : ax_Bt l sp bs tA D X L xs 4) (k : Nat) : ax_St l sp bs tA D X L xs (.invokestatic k) := by
  intro d nb sb M i len rest pc ls st n sl es Q m hm hdec hln henc hchk hF p e R s mid args below meth c n0 sl0 QF hC hE H locs cells slots LS hSx hll hLr
  obtain ⟨hx, hb, hml, hret, hlk, hini, hown0, hts, hK, hfr, hlo, hnb, hsb, hsz, hscr⟩ := id hC
  have hown : s.vm.findClass (ax_nm (M / 128)) = some mid.cls := by rw [← ax_m_cls hm]; exact hown0
  have nx : ∀ ls' st' n' sl' es' H' locs' cells' slots' LS', ax_S l sp bs tA D X L xs d nb sb M rest (pc + len) ls' st' n' sl' es' Q → ax_Sx sp bs tA D L xs nb sb n0 sl0 s n' sl' es' H' locs' cells' slots' → ls'.length = m.2.2.1 → ax_lr sp bs LS' ls' → W p l e R s mid args below meth c H' locs' cells' slots' QF (F0 mid (pc + len) LS' (st'.map (ax_v sp bs))) :=
    fun ls' st' n' sl' es' H' locs' cells' slots' LS' hk h1 h2 h3 => hk m hm hchk p e R s mid args below meth c n0 sl0 QF hC hE H' locs' cells' slots' LS' h1 h2 h3
  have nx0 : ∀ st', ax_S l sp bs tA D X L xs d nb sb M rest (pc + len) ls st' n sl es Q → W p l e R s mid args below meth c H locs cells slots QF (F0 mid (pc + len) LS (st'.map (ax_v sp bs))) := fun st' hk => nx _ _ _ _ _ _ _ _ _ _ hk hSx hll hLr
  have h1 : 3 = len := hln.resolve_left (show ¬ (3 = 0) by decide)
  subst h1
  dsimp only [ax_enc] at henc
  split at henc
  · next v hlk =>
    obtain ⟨hkd, h12, hnp, rfl⟩ := ax_call_spec henc
    dsimp only [ax_I] at hF
    obtain ⟨h1, h2, h3, h4, d', nb', sb', R', m', code', hd, hnb', hsb', hn', hsl', hm', hblk', hlen', hP', hpost⟩ := hF
    have hc4 : ((ax_np v.toNat + (if 0 = 0 then 0 else 1)) * 4 + 0) / 4 = ax_np v.toNat + 0 := by rw [if_pos rfl]; omega
    have hokW := (ax_m_ok hm' h12).2
    have hsm := ax_m_small hm'
    have hcl := ax_m_cls hm'
    have hpl := ax_nm_plain (v.toNat / 128)
    have hMet := ax_met hm' hblk' hlen' hP' hn' hsl' (Nat.le_trans hnb' hscr)
    have hUK : ∀ U : State, U.heap = H → s.WarmedH U.vm → ax_Kn tA D X U ∧ ax_AR sp bs tA D L xs n es U.heap := fun U hU hW => ⟨ax_Kn_moved hXw hK hW (fun q hq => by rw [hU]; exact hSx.2.2.2.2.2.2.1 q (by have := hsz.1; omega) (by omega)), by rw [hU]; exact hSx.2.2.2.2.1⟩
    have hCB0 : (ax_rm d' (nb' - n) (sb' - sl)).frames + 1 ≤ R.frames := by show d' + 1 ≤ R.frames; omega
    have hCB1 : 8 + (m'.2.2.1 + 11) + (ax_rm d' (nb' - n) (sb' - sl)).locals ≤ R.locals := by show 8 + (m'.2.2.1 + 11) + 64 * d' ≤ R.locals; omega
    have hCode := hts _ (ax_Tb_in hokW.1 rfl)
    have hIni := hts _ (ax_Tb_in hokW.2.1 rfl)
    have hNe : m'.1.cls ≠ "java/lang/invoke/MethodHandle" ∧ m'.1.cls ≠ "java/lang/invoke/VarHandle" := by rw [hcl]; exact hpl
    have hCB : CallB R s args (ax_nm (M / 128)) k m'.1 m'.2.1 m'.2.2.1 m'.2.2.2.1 (ax_wsM m') (ax_rm d' (nb' - n) (sb' - sl)) (nb' - n) (sb' - sl) (ax_np v.toNat) :=
      ⟨rfl, rfl, hCB0, hCB1, ax_good_ws hts hokW, List.mem_cons_self, hCode, hIni, hNe, ax_np_spec hm' hnp, hts _ (ax_Tb_in (by have := ax_res_word hm hlk; rw [show ax_word (M / 128) (k, 1, v) = Cond.methodLink (ax_nm (M / 128)) k (ax_y v.toNat) from rfl, ax_y_at hm'] at this; exact this) rfl)⟩
    rw [hc4] at h1 h2 h3 h4 hlen' hP' hpost hMet
    have hrm : 2 * (F0 mid pc LS (st.map (ax_v sp bs))).monitorRoom + (((st.drop (ax_np v.toNat + 0)).map (ax_v sp bs)).map fun v => v.category).sum ≤ 8 := by
      rw [ax_cat_map]
      have : (F0 mid pc LS (st.map (ax_v sp bs))).monitorRoom = 0 := rfl
      omega
    have hal : (st.take (ax_np v.toNat + 0)).reverse.length = ax_np v.toNat + 0 := by rw [List.length_reverse, List.length_take]; omega
    have hcr : cells + (nb' - n) ≤ R.cells ∧ slots + (sb' - sl) ≤ R.slots := by
      obtain ⟨a1, a2, a3, a4, -⟩ := hSx
      omega
    have hstk : (F0 mid pc LS (st.map (ax_v sp bs))).stack = (((st.take (ax_np v.toNat + 0)).reverse).map (ax_v sp bs)).reverse ++ (st.drop (ax_np v.toNat + 0)).map (ax_v sp bs) := by
      show st.map (ax_v sp bs) = _
      rw [← List.map_reverse, List.reverse_reverse, ← List.map_append, List.take_append_drop]
    have hStat := hts _ (ax_Tb_in (hokW.2.2.1 (by rw [← ax_kind_at hm']; exact hkd)) rfl)
    exact ax_go (va_runS (nL := ls.length) ⟨hx, hb, hml.trans hll.symm, hown, hts⟩ hMet ⟨hCB, hStat⟩ ⟨ax_blind hXc _ n es, fun U hU hW => ⟨rfl, (hUK U hU hW).1, (hUK U hU hW).2⟩⟩ rfl (by rw [List.length_map]; exact hal) hLr.1.1 hstk hrm hdec hcr) hSx hsz hn' hsl' hnb' hsb' hpost (fun r n1 sl1 es1 H1 locs1 cells1 slots1 hk hS1 => by rw [← ax_tl]; exact nx _ _ _ _ _ _ _ _ _ _ hk hS1 hll hLr)
  · next v hlk =>
    obtain ⟨hkd, h12, hnp, rfl⟩ := ax_call_spec henc
    dsimp only [ax_I] at hF
    obtain ⟨h1, h2, h3, h4, d', nb', sb', R', m', code', hd, hnb', hsb', hn', hsl', hm', hblk', hlen', hP', hpost⟩ := hF
    have hc4 : ((ax_np v.toNat + (if 0 = 0 then 0 else 1)) * 4 + 0) / 4 = ax_np v.toNat + 0 := by rw [if_pos rfl]; omega
    have hokW := (ax_m_ok hm' h12).2
    have hsm := ax_m_small hm'
    have hcl := ax_m_cls hm'
    have hpl := ax_nm_plain (v.toNat / 128)
    have hMet := ax_met hm' hblk' hlen' hP' hn' hsl' (Nat.le_trans hnb' hscr)
    have hUK : ∀ U : State, U.heap = H → s.WarmedH U.vm → ax_Kn tA D X U ∧ ax_AR sp bs tA D L xs n es U.heap := fun U hU hW => ⟨ax_Kn_moved hXw hK hW (fun q hq => by rw [hU]; exact hSx.2.2.2.2.2.2.1 q (by have := hsz.1; omega) (by omega)), by rw [hU]; exact hSx.2.2.2.2.1⟩
    have hCB0 : (ax_rm d' (nb' - n) (sb' - sl)).frames + 1 ≤ R.frames := by show d' + 1 ≤ R.frames; omega
    have hCB1 : 8 + (m'.2.2.1 + 11) + (ax_rm d' (nb' - n) (sb' - sl)).locals ≤ R.locals := by show 8 + (m'.2.2.1 + 11) + 64 * d' ≤ R.locals; omega
    have hCode := hts _ (ax_Tb_in hokW.1 rfl)
    have hIni := hts _ (ax_Tb_in hokW.2.1 rfl)
    have hNe : m'.1.cls ≠ "java/lang/invoke/MethodHandle" ∧ m'.1.cls ≠ "java/lang/invoke/VarHandle" := by rw [hcl]; exact hpl
    have hCB : va_CN R s args (ax_nm (M / 128)) k m'.1 "ShakingCourt" m'.2.1 m'.2.2.1 m'.2.2.2.1 (ax_wsM m') (ax_rm d' (nb' - n) (sb' - sl)) (nb' - n) (sb' - sl) (ax_np v.toNat) :=
      ⟨⟨rfl, rfl, hCB0, hCB1, ax_good_ws hts hokW, List.mem_cons_self⟩, hCode, hIni, hNe, ax_np_spec hm' hnp, va_Nw.use rfl (hK.2.1 _ _ _ _ (by have := ax_res_word hm hlk; rw [show ax_word (M / 128) (k, 2, v) = Cond.methodLinkNest (ax_nm (M / 128)) k (ax_y v.toNat) "ShakingCourt" from rfl, ax_y_at hm'] at this; exact this))⟩
    rw [hc4] at h1 h2 h3 h4 hlen' hP' hpost hMet
    have hrm : 2 * (F0 mid pc LS (st.map (ax_v sp bs))).monitorRoom + (((st.drop (ax_np v.toNat + 0)).map (ax_v sp bs)).map fun v => v.category).sum ≤ 8 := by
      rw [ax_cat_map]
      have : (F0 mid pc LS (st.map (ax_v sp bs))).monitorRoom = 0 := rfl
      omega
    have hal : (st.take (ax_np v.toNat + 0)).reverse.length = ax_np v.toNat + 0 := by rw [List.length_reverse, List.length_take]; omega
    have hcr : cells + (nb' - n) ≤ R.cells ∧ slots + (sb' - sl) ≤ R.slots := by
      obtain ⟨a1, a2, a3, a4, -⟩ := hSx
      omega
    have hstk : (F0 mid pc LS (st.map (ax_v sp bs))).stack = (((st.take (ax_np v.toNat + 0)).reverse).map (ax_v sp bs)).reverse ++ (st.drop (ax_np v.toNat + 0)).map (ax_v sp bs) := by
      show st.map (ax_v sp bs) = _
      rw [← List.map_reverse, List.reverse_reverse, ← List.map_append, List.take_append_drop]
    have hStat := hts _ (ax_Tb_in (hokW.2.2.1 (by rw [← ax_kind_at hm']; exact hkd)) rfl)
    exact ax_go (va_runSN (nL := ls.length) ⟨hx, hb, hml.trans hll.symm, hown, hts⟩ hMet ⟨hCB, hStat, trivial⟩ ⟨ax_blind hXc _ n es, fun U hU hW => ⟨rfl, (hUK U hU hW).1, (hUK U hU hW).2⟩⟩ rfl (by rw [List.length_map]; exact hal) hLr.1.1 hstk hrm hdec hcr) hSx hsz hn' hsl' hnb' hsb' hpost (fun r n1 sl1 es1 H1 locs1 cells1 slots1 hk hS1 => by rw [← ax_tl]; exact nx _ _ _ _ _ _ _ _ _ _ hk hS1 hll hLr)
  · next hlk =>
    exact hB1 k d nb sb M i 3 rest pc ls st n sl es Q m hm hdec hln (by dsimp only [ax_enc]; rw [hlk]; exact henc) hchk hF p e R s mid args below meth c n0 sl0 QF hC hE H locs cells slots LS hSx hll hLr hlk
  · next hlk =>
    exact hB4 k d nb sb M i 3 rest pc ls st n sl es Q m hm hdec hln (by dsimp only [ax_enc]; rw [hlk]; exact henc) hchk hF p e R s mid args below meth c n0 sl0 QF hC hE H locs cells slots LS hSx hll hLr hlk
  · cases henc
set_option maxHeartbeats 1000000 in
theorem ax_st_invokevirtual (hXc : ∀ (U : State) (g : JFrame) (mk : MethodId) (a : Array Value), X U → X (U.calling g mk a)) (hXw : ∀ U U' : State, X U → U.WarmedH U'.vm → (∀ q, q < bs → U'.heap[q]? = U.heap[q]?) → X U') (hB2 : ax_Bt2 l sp bs tA D X L xs 2) (hB3 : ax_Bt2 l sp bs tA D X L xs 3) (k : Nat) : ax_St l sp bs tA D X L xs (.invokevirtual k) := by
  intro d nb sb M i len rest pc ls st n sl es Q m hm hdec hln henc hchk hF p e R s mid args below meth c n0 sl0 QF hC hE H locs cells slots LS hSx hll hLr
  obtain ⟨hx, hb, hml, hret, hlk, hini, hown0, hts, hK, hfr, hlo, hnb, hsb, hsz, hscr⟩ := id hC
  have hown : s.vm.findClass (ax_nm (M / 128)) = some mid.cls := by rw [← ax_m_cls hm]; exact hown0
  have nx : ∀ ls' st' n' sl' es' H' locs' cells' slots' LS', ax_S l sp bs tA D X L xs d nb sb M rest (pc + len) ls' st' n' sl' es' Q → ax_Sx sp bs tA D L xs nb sb n0 sl0 s n' sl' es' H' locs' cells' slots' → ls'.length = m.2.2.1 → ax_lr sp bs LS' ls' → W p l e R s mid args below meth c H' locs' cells' slots' QF (F0 mid (pc + len) LS' (st'.map (ax_v sp bs))) :=
    fun ls' st' n' sl' es' H' locs' cells' slots' LS' hk h1 h2 h3 => hk m hm hchk p e R s mid args below meth c n0 sl0 QF hC hE H' locs' cells' slots' LS' h1 h2 h3
  have nx0 : ∀ st', ax_S l sp bs tA D X L xs d nb sb M rest (pc + len) ls st' n sl es Q → W p l e R s mid args below meth c H locs cells slots QF (F0 mid (pc + len) LS (st'.map (ax_v sp bs))) := fun st' hk => nx _ _ _ _ _ _ _ _ _ _ hk hSx hll hLr
  have h1 : 3 = len := hln.resolve_left (show ¬ (3 = 0) by decide)
  subst h1
  dsimp only [ax_enc] at henc
  split at henc
  · next v hlk =>
    obtain ⟨hkd, h12, hnp, rfl⟩ := ax_call_spec henc
    dsimp only [ax_I] at hF
    obtain ⟨h1, h2, h3, h4, d', nb', sb', R', m', code', hd, hnb', hsb', hn', hsl', hm', hblk', hlen', hP', hpost⟩ := hF
    have hc4 : ((ax_np v.toNat + (if 1 = 0 then 0 else 1)) * 4 + 1) / 4 = ax_np v.toNat + 1 := by rw [if_neg (by decide)]; omega
    have hokW := (ax_m_ok hm' h12).2
    have hsm := ax_m_small hm'
    have hcl := ax_m_cls hm'
    have hpl := ax_nm_plain (v.toNat / 128)
    have hMet := ax_met hm' hblk' hlen' hP' hn' hsl' (Nat.le_trans hnb' hscr)
    have hUK : ∀ U : State, U.heap = H → s.WarmedH U.vm → ax_Kn tA D X U ∧ ax_AR sp bs tA D L xs n es U.heap := fun U hU hW => ⟨ax_Kn_moved hXw hK hW (fun q hq => by rw [hU]; exact hSx.2.2.2.2.2.2.1 q (by have := hsz.1; omega) (by omega)), by rw [hU]; exact hSx.2.2.2.2.1⟩
    have hCB0 : (ax_rm d' (nb' - n) (sb' - sl)).frames + 1 ≤ R.frames := by show d' + 1 ≤ R.frames; omega
    have hCB1 : 8 + (m'.2.2.1 + 11) + (ax_rm d' (nb' - n) (sb' - sl)).locals ≤ R.locals := by show 8 + (m'.2.2.1 + 11) + 64 * d' ≤ R.locals; omega
    have hCode := hts _ (ax_Tb_in hokW.1 rfl)
    have hIni := hts _ (ax_Tb_in hokW.2.1 rfl)
    have hNe : m'.1.cls ≠ "java/lang/invoke/MethodHandle" ∧ m'.1.cls ≠ "java/lang/invoke/VarHandle" := by rw [hcl]; exact hpl
    have hCB : CallB R s args (ax_nm (M / 128)) k m'.1 m'.2.1 m'.2.2.1 m'.2.2.2.1 (ax_wsM m') (ax_rm d' (nb' - n) (sb' - sl)) (nb' - n) (sb' - sl) (ax_np v.toNat) :=
      ⟨rfl, rfl, hCB0, hCB1, ax_good_ws hts hokW, List.mem_cons_self, hCode, hIni, hNe, ax_np_spec hm' hnp, hts _ (ax_Tb_in (by have := ax_res_word hm hlk; rw [show ax_word (M / 128) (k, 1, v) = Cond.methodLink (ax_nm (M / 128)) k (ax_y v.toNat) from rfl, ax_y_at hm'] at this; exact this) rfl)⟩
    rw [hc4] at h1 h2 h3 h4 hlen' hP' hpost hMet
    have hrm : 2 * (F0 mid pc LS (st.map (ax_v sp bs))).monitorRoom + (((st.drop (ax_np v.toNat + 1)).map (ax_v sp bs)).map fun v => v.category).sum ≤ 8 := by
      rw [ax_cat_map]
      have : (F0 mid pc LS (st.map (ax_v sp bs))).monitorRoom = 0 := rfl
      omega
    have hal : (st.take (ax_np v.toNat + 1)).reverse.length = ax_np v.toNat + 1 := by rw [List.length_reverse, List.length_take]; omega
    have hcr : cells + (nb' - n) ≤ R.cells ∧ slots + (sb' - sl) ≤ R.slots := by
      obtain ⟨a1, a2, a3, a4, -⟩ := hSx
      omega
    have h3 := h3 (by rw [if_neg (by decide)]; omega)
    cases hav : (st.take (ax_np v.toNat + 1)).reverse with
    | nil => rw [hav] at hal; cases hal
    | cons a0 As =>
      rw [hav] at h3 hMet hal
      cases a0 with
      | ref q =>
        obtain ⟨hq, h3⟩ := h3
        split at h3
        · next c' fs hes =>
          subst h3
          have hstk : (F0 mid pc LS (st.map (ax_v sp bs))).stack = (As.map (ax_v sp bs)).reverse ++ .ref (bs + q) :: (st.drop (ax_np v.toNat + 1)).map (ax_v sp bs) := by
            show st.map (ax_v sp bs) = _
            have e1 : st = (Value.ref q :: As).reverse ++ st.drop (ax_np v.toNat + 1) := by rw [← hav]; exact ax_td st _
            conv => lhs; rw [e1]
            rw [List.map_append, List.map_reverse, List.map_cons, List.reverse_cons, List.append_assoc]
            rfl
          have hlA : (As.map (ax_v sp bs)).length = ax_np v.toNat := by rw [List.length_map]; have : (Value.ref q :: As).length = ax_np v.toNat + 1 := hal; rw [List.length_cons] at this; omega
          have hInst := hts _ (ax_Tb_in (hokW.2.2.2.1 (by rw [← ax_kind_at hm', hkd]; decide)) rfl)
          have hSel := hts _ (ax_Tb_in (hokW.2.2.2.2 (by rw [← ax_kind_at hm']; exact hkd)) rfl)
          have he : (ax_ws sp bs tA (ax_al n) es)[q]? = some (bs + q, .inr (v.toNat / 128, fs.map (ax_v sp bs))) := by rw [ax_ws_at _ _ _ _ hq, hes]; rfl
          obtain ⟨C, T, N, hr⟩ : ∃ C T N, ax_cl[v.toNat / 128]? = some (C, T, N) := by
            obtain ⟨r, h9, -⟩ := hSx.2.2.2.2.1.1 q _ he
            exact ⟨r.1, r.2.1, r.2.2, h9⟩
          have hrc := va_recv hK.1 hSx.2.2.2.2.1.1 hr he
          have hCn : C = m'.1.cls := by rw [hcl]; exact (ax_cl_ok _ _ hr h12).2.2.2.2.2.1
          rw [hCn] at hrc
          exact ax_go (va_runV (nL := ls.length) ⟨hx, hb, hml.trans hll.symm, hown, hts⟩ hMet ⟨hCB, hInst, hSel⟩ ⟨ax_blind hXc _ n es, hrc, fun U hU hW => ⟨rfl, (hUK U hU hW).1, (hUK U hU hW).2⟩⟩ rfl hlA hLr.1.1 hstk hrm hdec hcr) hSx hsz hn' hsl' hnb' hsb' hpost (fun r n1 sl1 es1 H1 locs1 cells1 slots1 hk hS1 => by rw [← ax_tl]; exact nx _ _ _ _ _ _ _ _ _ _ hk hS1 hll hLr)
        · exact h3.elim
      | _ => exact h3.elim
  · next hlk =>
    exact hB2 k d nb sb M i 3 rest pc ls st n sl es Q m hm hdec hln (by dsimp only [ax_enc]; rw [hlk]; exact henc) hchk hF p e R s mid args below meth c n0 sl0 QF hC hE H locs cells slots LS hSx hll hLr hlk
  · next hlk =>
    exact hB3 k d nb sb M i 3 rest pc ls st n sl es Q m hm hdec hln (by dsimp only [ax_enc]; rw [hlk]; exact henc) hchk hF p e R s mid args below meth c n0 sl0 QF hC hE H locs cells slots LS hSx hll hLr hlk
  · cases henc
set_option maxHeartbeats 1000000 in
theorem ax_st_invokespecial (hXc : ∀ (U : State) (g : JFrame) (mk : MethodId) (a : Array Value), X U → X (U.calling g mk a)) (hXw : ∀ U U' : State, X U → U.WarmedH U'.vm → (∀ q, q < bs → U'.heap[q]? = U.heap[q]?) → X U') (hNone : ∀ (M : Nat) (m : ax_M), ax_m M = some m → m.2.2.2.2.1 = 2 → m.2.2.2.1 = none) (k : Nat) : ax_St l sp bs tA D X L xs (.invokespecial k) := by
  intro d nb sb M i len rest pc ls st n sl es Q m hm hdec hln henc hchk hF p e R s mid args below meth c n0 sl0 QF hC hE H locs cells slots LS hSx hll hLr
  obtain ⟨hx, hb, hml, hret, hlk, hini, hown0, hts, hK, hfr, hlo, hnb, hsb, hsz, hscr⟩ := id hC
  have hown : s.vm.findClass (ax_nm (M / 128)) = some mid.cls := by rw [← ax_m_cls hm]; exact hown0
  have nx : ∀ ls' st' n' sl' es' H' locs' cells' slots' LS', ax_S l sp bs tA D X L xs d nb sb M rest (pc + len) ls' st' n' sl' es' Q → ax_Sx sp bs tA D L xs nb sb n0 sl0 s n' sl' es' H' locs' cells' slots' → ls'.length = m.2.2.1 → ax_lr sp bs LS' ls' → W p l e R s mid args below meth c H' locs' cells' slots' QF (F0 mid (pc + len) LS' (st'.map (ax_v sp bs))) :=
    fun ls' st' n' sl' es' H' locs' cells' slots' LS' hk h1 h2 h3 => hk m hm hchk p e R s mid args below meth c n0 sl0 QF hC hE H' locs' cells' slots' LS' h1 h2 h3
  have nx0 : ∀ st', ax_S l sp bs tA D X L xs d nb sb M rest (pc + len) ls st' n sl es Q → W p l e R s mid args below meth c H locs cells slots QF (F0 mid (pc + len) LS (st'.map (ax_v sp bs))) := fun st' hk => nx _ _ _ _ _ _ _ _ _ _ hk hSx hll hLr
  have h1 : 3 = len := hln.resolve_left (show ¬ (3 = 0) by decide)
  subst h1
  dsimp only [ax_enc] at henc
  split at henc
  · next v hlk =>
    obtain ⟨hkd, h12, hnp, rfl⟩ := ax_call_spec henc
    dsimp only [ax_I] at hF
    obtain ⟨h1, h2, h3, h4, d', nb', sb', R', m', code', hd, hnb', hsb', hn', hsl', hm', hblk', hlen', hP', hpost⟩ := hF
    have hc4 : ((ax_np v.toNat + (if 2 = 0 then 0 else 1)) * 4 + 2) / 4 = ax_np v.toNat + 1 := by rw [if_neg (by decide)]; omega
    have hokW := (ax_m_ok hm' h12).2
    have hsm := ax_m_small hm'
    have hcl := ax_m_cls hm'
    have hpl := ax_nm_plain (v.toNat / 128)
    have hMet := ax_met hm' hblk' hlen' hP' hn' hsl' (Nat.le_trans hnb' hscr)
    have hUK : ∀ U : State, U.heap = H → s.WarmedH U.vm → ax_Kn tA D X U ∧ ax_AR sp bs tA D L xs n es U.heap := fun U hU hW => ⟨ax_Kn_moved hXw hK hW (fun q hq => by rw [hU]; exact hSx.2.2.2.2.2.2.1 q (by have := hsz.1; omega) (by omega)), by rw [hU]; exact hSx.2.2.2.2.1⟩
    have hCB0 : (ax_rm d' (nb' - n) (sb' - sl)).frames + 1 ≤ R.frames := by show d' + 1 ≤ R.frames; omega
    have hCB1 : 8 + (m'.2.2.1 + 11) + (ax_rm d' (nb' - n) (sb' - sl)).locals ≤ R.locals := by show 8 + (m'.2.2.1 + 11) + 64 * d' ≤ R.locals; omega
    have hCode := hts _ (ax_Tb_in hokW.1 rfl)
    have hIni := hts _ (ax_Tb_in hokW.2.1 rfl)
    have hNe : m'.1.cls ≠ "java/lang/invoke/MethodHandle" ∧ m'.1.cls ≠ "java/lang/invoke/VarHandle" := by rw [hcl]; exact hpl
    have hrn : m'.2.2.2.1 = none := hNone v.toNat m' hm' (by rw [← ax_kind_at hm']; exact hkd)
    have hCode : (Cond.code m'.1 m'.2.1 m'.2.2.1 none).before args s = true := hrn ▸ hCode
    have hcm : Cond.code m'.1 m'.2.1 m'.2.2.1 none ∈ ax_wsM m' := by rw [← hrn]; exact List.mem_cons_self
    have hCB : CallB R s args (ax_nm (M / 128)) k m'.1 m'.2.1 m'.2.2.1 none (ax_wsM m') (ax_rm d' (nb' - n) (sb' - sl)) (nb' - n) (sb' - sl) (ax_np v.toNat) :=
      ⟨rfl, rfl, hCB0, hCB1, ax_good_ws hts hokW, hcm, hCode, hIni, hNe, ax_np_spec hm' hnp, hts _ (ax_Tb_in (by have := ax_res_word hm hlk; rw [show ax_word (M / 128) (k, 1, v) = Cond.methodLink (ax_nm (M / 128)) k (ax_y v.toNat) from rfl, ax_y_at hm'] at this; exact this) rfl)⟩
    rw [hc4] at h1 h2 h3 h4 hlen' hP' hpost hMet
    have hrm : 2 * (F0 mid pc LS (st.map (ax_v sp bs))).monitorRoom + (((st.drop (ax_np v.toNat + 1)).map (ax_v sp bs)).map fun v => v.category).sum ≤ 8 := by
      rw [ax_cat_map]
      have : (F0 mid pc LS (st.map (ax_v sp bs))).monitorRoom = 0 := rfl
      omega
    have hal : (st.take (ax_np v.toNat + 1)).reverse.length = ax_np v.toNat + 1 := by rw [List.length_reverse, List.length_take]; omega
    have hcr : cells + (nb' - n) ≤ R.cells ∧ slots + (sb' - sl) ≤ R.slots := by
      obtain ⟨a1, a2, a3, a4, -⟩ := hSx
      omega
    have h4 := h4 (by rw [if_neg (by decide)]; omega)
    cases hav : (st.take (ax_np v.toNat + 1)).reverse with
    | nil => rw [hav] at hal; cases hal
    | cons a0 As =>
      rw [hav] at h4 hMet hal
      cases a0 with
      | ref q =>
        have hstk : (F0 mid pc LS (st.map (ax_v sp bs))).stack = (As.map (ax_v sp bs)).reverse ++ .ref (bs + q) :: (st.drop (ax_np v.toNat + 1)).map (ax_v sp bs) := by
          show st.map (ax_v sp bs) = _
          have e1 : st = (Value.ref q :: As).reverse ++ st.drop (ax_np v.toNat + 1) := by rw [← hav]; exact ax_td st _
          conv => lhs; rw [e1]
          rw [List.map_append, List.map_reverse, List.map_cons, List.reverse_cons, List.append_assoc]
          rfl
        have hlA : (As.map (ax_v sp bs)).length = ax_np v.toNat := by rw [List.length_map]; have : (Value.ref q :: As).length = ax_np v.toNat + 1 := hal; rw [List.length_cons] at this; omega
        have hInst := hts _ (ax_Tb_in (hokW.2.2.2.1 (by rw [← ax_kind_at hm', hkd]; decide)) rfl)
        have hni : m'.1.name = "<init>" := (ax_okM_spec (ax_m_ok hm' h12).1).2.2.2.1.mp (by rw [← ax_kind_at hm']; exact hkd)
        exact ax_go (va_runI (nL := ls.length) ⟨hx, hb, hml.trans hll.symm, hown, hts⟩ hMet ⟨hCB, hni, hInst⟩ ⟨ax_blind hXc _ n es, fun U hU hW => ⟨rfl, (hUK U hU hW).1, (hUK U hU hW).2⟩⟩ rfl hlA hLr.1.1 hstk hrm hdec hcr) hSx hsz hn' hsl' hnb' hsb' hpost (fun r n1 sl1 es1 H1 locs1 cells1 slots1 hk hS1 => by rw [← ax_tl]; exact nx _ _ _ _ _ _ _ _ _ _ hk hS1 hll hLr)
      | _ => exact h4.elim
  · next v hlk =>
    obtain ⟨hkd, h12, hnp, rfl⟩ := ax_call_spec henc
    dsimp only [ax_I] at hF
    obtain ⟨h1, h2, h3, h4, d', nb', sb', R', m', code', hd, hnb', hsb', hn', hsl', hm', hblk', hlen', hP', hpost⟩ := hF
    have hc4 : ((ax_np v.toNat + (if 2 = 0 then 0 else 1)) * 4 + 2) / 4 = ax_np v.toNat + 1 := by rw [if_neg (by decide)]; omega
    have hokW := (ax_m_ok hm' h12).2
    have hsm := ax_m_small hm'
    have hcl := ax_m_cls hm'
    have hpl := ax_nm_plain (v.toNat / 128)
    have hMet := ax_met hm' hblk' hlen' hP' hn' hsl' (Nat.le_trans hnb' hscr)
    have hUK : ∀ U : State, U.heap = H → s.WarmedH U.vm → ax_Kn tA D X U ∧ ax_AR sp bs tA D L xs n es U.heap := fun U hU hW => ⟨ax_Kn_moved hXw hK hW (fun q hq => by rw [hU]; exact hSx.2.2.2.2.2.2.1 q (by have := hsz.1; omega) (by omega)), by rw [hU]; exact hSx.2.2.2.2.1⟩
    have hCB0 : (ax_rm d' (nb' - n) (sb' - sl)).frames + 1 ≤ R.frames := by show d' + 1 ≤ R.frames; omega
    have hCB1 : 8 + (m'.2.2.1 + 11) + (ax_rm d' (nb' - n) (sb' - sl)).locals ≤ R.locals := by show 8 + (m'.2.2.1 + 11) + 64 * d' ≤ R.locals; omega
    have hCode := hts _ (ax_Tb_in hokW.1 rfl)
    have hIni := hts _ (ax_Tb_in hokW.2.1 rfl)
    have hNe : m'.1.cls ≠ "java/lang/invoke/MethodHandle" ∧ m'.1.cls ≠ "java/lang/invoke/VarHandle" := by rw [hcl]; exact hpl
    have hrn : m'.2.2.2.1 = none := hNone v.toNat m' hm' (by rw [← ax_kind_at hm']; exact hkd)
    have hCode : (Cond.code m'.1 m'.2.1 m'.2.2.1 none).before args s = true := hrn ▸ hCode
    have hcm : Cond.code m'.1 m'.2.1 m'.2.2.1 none ∈ ax_wsM m' := by rw [← hrn]; exact List.mem_cons_self
    have hCB : va_CN R s args (ax_nm (M / 128)) k m'.1 "ShakingCourt" m'.2.1 m'.2.2.1 none (ax_wsM m') (ax_rm d' (nb' - n) (sb' - sl)) (nb' - n) (sb' - sl) (ax_np v.toNat) :=
      ⟨⟨rfl, rfl, hCB0, hCB1, ax_good_ws hts hokW, hcm⟩, hCode, hIni, hNe, ax_np_spec hm' hnp, va_Nw.use rfl (hK.2.1 _ _ _ _ (by have := ax_res_word hm hlk; rw [show ax_word (M / 128) (k, 2, v) = Cond.methodLinkNest (ax_nm (M / 128)) k (ax_y v.toNat) "ShakingCourt" from rfl, ax_y_at hm'] at this; exact this))⟩
    rw [hc4] at h1 h2 h3 h4 hlen' hP' hpost hMet
    have hrm : 2 * (F0 mid pc LS (st.map (ax_v sp bs))).monitorRoom + (((st.drop (ax_np v.toNat + 1)).map (ax_v sp bs)).map fun v => v.category).sum ≤ 8 := by
      rw [ax_cat_map]
      have : (F0 mid pc LS (st.map (ax_v sp bs))).monitorRoom = 0 := rfl
      omega
    have hal : (st.take (ax_np v.toNat + 1)).reverse.length = ax_np v.toNat + 1 := by rw [List.length_reverse, List.length_take]; omega
    have hcr : cells + (nb' - n) ≤ R.cells ∧ slots + (sb' - sl) ≤ R.slots := by
      obtain ⟨a1, a2, a3, a4, -⟩ := hSx
      omega
    have h4 := h4 (by rw [if_neg (by decide)]; omega)
    cases hav : (st.take (ax_np v.toNat + 1)).reverse with
    | nil => rw [hav] at hal; cases hal
    | cons a0 As =>
      rw [hav] at h4 hMet hal
      cases a0 with
      | ref q =>
        have hstk : (F0 mid pc LS (st.map (ax_v sp bs))).stack = (As.map (ax_v sp bs)).reverse ++ .ref (bs + q) :: (st.drop (ax_np v.toNat + 1)).map (ax_v sp bs) := by
          show st.map (ax_v sp bs) = _
          have e1 : st = (Value.ref q :: As).reverse ++ st.drop (ax_np v.toNat + 1) := by rw [← hav]; exact ax_td st _
          conv => lhs; rw [e1]
          rw [List.map_append, List.map_reverse, List.map_cons, List.reverse_cons, List.append_assoc]
          rfl
        have hlA : (As.map (ax_v sp bs)).length = ax_np v.toNat := by rw [List.length_map]; have : (Value.ref q :: As).length = ax_np v.toNat + 1 := hal; rw [List.length_cons] at this; omega
        have hInst := hts _ (ax_Tb_in (hokW.2.2.2.1 (by rw [← ax_kind_at hm', hkd]; decide)) rfl)
        have hni : m'.1.name = "<init>" := (ax_okM_spec (ax_m_ok hm' h12).1).2.2.2.1.mp (by rw [← ax_kind_at hm']; exact hkd)
        exact ax_go (va_runIN (nL := ls.length) ⟨hx, hb, hml.trans hll.symm, hown, hts⟩ hMet ⟨hCB, hni, hInst⟩ ⟨ax_blind hXc _ n es, fun U hU hW => ⟨rfl, (hUK U hU hW).1, (hUK U hU hW).2⟩⟩ rfl hlA hLr.1.1 hstk hrm hdec hcr) hSx hsz hn' hsl' hnb' hsb' hpost (fun r n1 sl1 es1 H1 locs1 cells1 slots1 hk hS1 => by rw [← ax_tl]; exact nx _ _ _ _ _ _ _ _ _ _ hk hS1 hll hLr)
      | _ => exact h4.elim
  · next hlk =>
    cases henc
    cases st with
    | nil => exact (show False from hF).elim
    | cons v st' =>
      cases v with
      | ref q =>
        obtain ⟨hd1, hcat, hF⟩ := (show 1 ≤ d ∧ ax_cat st' ≤ 8 ∧ ax_S l sp bs tA D X L xs d nb sb M rest (pc + 3) ls st' n sl es Q from hF)
        have hw : Cond.methodLink (ax_nm (M / 128)) k (ax_yb 0) ∈ lw_tbl := ax_res_word hm hlk
        refine W.objInit hx hb hown (hts _ (ax_Tb_in hw rfl)) (hts _ (ax_Tb_in ax_uobj.1 rfl)) (hts _ (ax_Tb_in ax_uobj.2 rfl)) rfl (hLr.1.1.trans (hll.trans hml.symm)) rfl hdec (by omega) ?_ (nx0 _ hF)
        rw [ax_cat_map]
        have : (F0 mid pc LS ((Value.ref q :: st').map (ax_v sp bs))).monitorRoom = 0 := rfl
        omega
      | _ => exact (show False from hF).elim
  · cases henc
set_option maxHeartbeats 1000000 in
theorem ax_st_ireturn : ax_St l sp bs tA D X L xs (.ireturn) := by
  intro d nb sb M i len rest pc ls st n sl es Q m hm hdec hln henc hchk hF p e R s mid args below meth c n0 sl0 QF hC hE H locs cells slots LS hSx hll hLr
  obtain ⟨hx, hb, hml, hret, hlk, hini, hown0, hts, hK, hfr, hlo, hnb, hsb, hsz, hscr⟩ := id hC
  have hown : s.vm.findClass (ax_nm (M / 128)) = some mid.cls := by rw [← ax_m_cls hm]; exact hown0
  have nx : ∀ ls' st' n' sl' es' H' locs' cells' slots' LS', ax_S l sp bs tA D X L xs d nb sb M rest (pc + len) ls' st' n' sl' es' Q → ax_Sx sp bs tA D L xs nb sb n0 sl0 s n' sl' es' H' locs' cells' slots' → ls'.length = m.2.2.1 → ax_lr sp bs LS' ls' → W p l e R s mid args below meth c H' locs' cells' slots' QF (F0 mid (pc + len) LS' (st'.map (ax_v sp bs))) :=
    fun ls' st' n' sl' es' H' locs' cells' slots' LS' hk h1 h2 h3 => hk m hm hchk p e R s mid args below meth c n0 sl0 QF hC hE H' locs' cells' slots' LS' h1 h2 h3
  have nx0 : ∀ st', ax_S l sp bs tA D X L xs d nb sb M rest (pc + len) ls st' n sl es Q → W p l e R s mid args below meth c H locs cells slots QF (F0 mid (pc + len) LS (st'.map (ax_v sp bs))) := fun st' hk => nx _ _ _ _ _ _ _ _ _ _ hk hSx hll hLr
  have h1 : 1 = len := hln.resolve_left (show ¬ (1 = 0) by decide)
  subst h1
  cases henc
  dsimp only [ax_I] at hF
  split at hF
  · next v =>
    obtain ⟨h1, h2⟩ := hF
    have hr : ax_ret M = m.2.2.2.1 := by unfold ax_ret; rw [hm]
    rw [hr] at h1
    cases v with
    | int x => exact hE (some (.int x)) n sl es H locs cells slots pc LS h2 h1 hSx hdec
    | _ =>
      exfalso
      unfold ax_rtok at h1
      split at h1 <;> first | exact h1 | (next h => cases h)
  · exact hF.elim
set_option maxHeartbeats 1000000 in
theorem ax_st_return_ : ax_St l sp bs tA D X L xs (.return_) := by
  intro d nb sb M i len rest pc ls st n sl es Q m hm hdec hln henc hchk hF p e R s mid args below meth c n0 sl0 QF hC hE H locs cells slots LS hSx hll hLr
  obtain ⟨hx, hb, hml, hret, hlk, hini, hown0, hts, hK, hfr, hlo, hnb, hsb, hsz, hscr⟩ := id hC
  have hown : s.vm.findClass (ax_nm (M / 128)) = some mid.cls := by rw [← ax_m_cls hm]; exact hown0
  have nx : ∀ ls' st' n' sl' es' H' locs' cells' slots' LS', ax_S l sp bs tA D X L xs d nb sb M rest (pc + len) ls' st' n' sl' es' Q → ax_Sx sp bs tA D L xs nb sb n0 sl0 s n' sl' es' H' locs' cells' slots' → ls'.length = m.2.2.1 → ax_lr sp bs LS' ls' → W p l e R s mid args below meth c H' locs' cells' slots' QF (F0 mid (pc + len) LS' (st'.map (ax_v sp bs))) :=
    fun ls' st' n' sl' es' H' locs' cells' slots' LS' hk h1 h2 h3 => hk m hm hchk p e R s mid args below meth c n0 sl0 QF hC hE H' locs' cells' slots' LS' h1 h2 h3
  have nx0 : ∀ st', ax_S l sp bs tA D X L xs d nb sb M rest (pc + len) ls st' n sl es Q → W p l e R s mid args below meth c H locs cells slots QF (F0 mid (pc + len) LS (st'.map (ax_v sp bs))) := fun st' hk => nx _ _ _ _ _ _ _ _ _ _ hk hSx hll hLr
  have h1 : 1 = len := hln.resolve_left (show ¬ (1 = 0) by decide)
  subst h1
  cases henc
  dsimp only [ax_I] at hF
  split at hF
  · obtain ⟨h1, h2⟩ := hF
    have hr : ax_ret M = m.2.2.2.1 := by unfold ax_ret; rw [hm]
    rw [hr] at h1
    exact hE none n sl es H locs cells slots pc LS h2 h1 hSx hdec
  · exact hF.elim
set_option maxHeartbeats 1000000 in
theorem ax_st_areturn : ax_St l sp bs tA D X L xs (.areturn) := by
  intro d nb sb M i len rest pc ls st n sl es Q m hm hdec hln henc hchk hF p e R s mid args below meth c n0 sl0 QF hC hE H locs cells slots LS hSx hll hLr
  obtain ⟨hx, hb, hml, hret, hlk, hini, hown0, hts, hK, hfr, hlo, hnb, hsb, hsz, hscr⟩ := id hC
  have hown : s.vm.findClass (ax_nm (M / 128)) = some mid.cls := by rw [← ax_m_cls hm]; exact hown0
  have nx : ∀ ls' st' n' sl' es' H' locs' cells' slots' LS', ax_S l sp bs tA D X L xs d nb sb M rest (pc + len) ls' st' n' sl' es' Q → ax_Sx sp bs tA D L xs nb sb n0 sl0 s n' sl' es' H' locs' cells' slots' → ls'.length = m.2.2.1 → ax_lr sp bs LS' ls' → W p l e R s mid args below meth c H' locs' cells' slots' QF (F0 mid (pc + len) LS' (st'.map (ax_v sp bs))) :=
    fun ls' st' n' sl' es' H' locs' cells' slots' LS' hk h1 h2 h3 => hk m hm hchk p e R s mid args below meth c n0 sl0 QF hC hE H' locs' cells' slots' LS' h1 h2 h3
  have nx0 : ∀ st', ax_S l sp bs tA D X L xs d nb sb M rest (pc + len) ls st' n sl es Q → W p l e R s mid args below meth c H locs cells slots QF (F0 mid (pc + len) LS (st'.map (ax_v sp bs))) := fun st' hk => nx _ _ _ _ _ _ _ _ _ _ hk hSx hll hLr
  have h1 : 1 = len := hln.resolve_left (show ¬ (1 = 0) by decide)
  subst h1
  cases henc
  dsimp only [ax_I] at hF
  split at hF
  · next k nm h1 =>
    have hr : ax_ret M = m.2.2.2.1 := by unfold ax_ret; rw [hm]
    exact hE (some (.ref k)) n sl es H locs cells slots pc LS hF ⟨nm, hr ▸ h1⟩ hSx hdec
  · exact hF.elim
end AXCALL
