def ax_St (l : Launch) (sp : Nat → Nat) (bs : Nat) (tA : Nat → ClassId) (D : va_G) (X : State → Prop) (L : Nat) (xs : Nat → Int32) (ri : Instr) : Prop :=
  ∀ (d nb sb M : Nat) (i : Instr) (len : Nat) (rest : List (Nat × Instr)) (pc : Nat) (ls : ax_L) (st : List Value) (n sl : Nat) (es : ax_H) (Q : ax_Q) (m : ax_M), ax_m M = some m → decode m.2.1 pc = .ok (ri, len) → (ax_ln ri = 0 ∨ ax_ln ri = len) → ax_enc (M / 128) pc (decide (m.1.name = "<init>")) ri = some i → ax_chk (M / 128) (decide (m.1.name = "<init>")) m.2.1 (pc + len) rest = true →
    ax_I (ax_S l sp bs tA D X L xs) d nb sb M i ls st n sl es Q (fun ls st n sl es => ax_S l sp bs tA D X L xs d nb sb M rest (pc + len) ls st n sl es Q) →
    ∀ (p : Program) (e : Env) (R : Room) (s : State) (mid : MethodId) (args : Array Value) (below : List Frame) (meth : Method) (c : Code) (n0 sl0 : Nat) (QF : State → Prop), ax_Cx bs tA D X d nb sb m p R s mid args meth c n0 sl0 → ax_Ed l sp bs tA D L xs nb sb m Q p e R s mid args below meth c n0 sl0 QF →
    ∀ (H : Heap) (locs : List Loc) (cells slots : Nat) (LS : Array Slot), ax_Sx sp bs tA D L xs nb sb n0 sl0 s n sl es H locs cells slots → ls.length = m.2.2.1 → ax_lr sp bs LS ls → W p l e R s mid args below meth c H locs cells slots QF (F0 mid pc LS (st.map (ax_v sp bs)))
theorem ax_off_spec {pc : Nat} {off t : Int} (h : ax_off pc off = some t) : (pc : Int) + off = (t.toNat : Int) := by
  unfold ax_off at h
  split at h
  · cases h
    omega
  · cases h
theorem ax_lconst_eq : ∀ v : Fin 2, Int64.ofNat v.val = Int64.ofInt (Int.ofNat v.val) := by decide
theorem ax_i8_eq (v : Int) : (Int8.ofInt v).toInt32 = Int32.ofInt (Int8.ofInt v).toInt32.toInt := (Int32.ofInt_toInt _).symm
theorem ax_i16_eq (v : Int) : (Int16.ofInt v).toInt32 = Int32.ofInt (Int16.ofInt v).toInt32.toInt := (Int32.ofInt_toInt _).symm
section AXST
variable {l : Launch} {sp : Nat → Nat} {bs : Nat} {tA : Nat → ClassId} {D : va_G} {X : State → Prop} {L : Nat} {xs : Nat → Int32}
set_option maxHeartbeats 1000000 in
theorem ax_st_iadd : ax_St l sp bs tA D X L xs (.iadd) := by
  intro d nb sb M i len rest pc ls st n sl es Q m hm hdec hln henc hchk hF p e R s mid args below meth c n0 sl0 QF hC hE H locs cells slots LS hSx hll hLr
  obtain ⟨hx, hb, hml, hret, hlk, hini, hown0, hts, hK, hfr, hlo, hnb, hsb, hsz, hscr⟩ := id hC
  have hown : s.vm.findClass (ax_nm (M / 128)) = some mid.cls := by rw [← ax_m_cls hm]; exact hown0
  have nx : ∀ ls' st' n' sl' es' H' locs' cells' slots' LS', ax_S l sp bs tA D X L xs d nb sb M rest (pc + len) ls' st' n' sl' es' Q → ax_Sx sp bs tA D L xs nb sb n0 sl0 s n' sl' es' H' locs' cells' slots' → ls'.length = m.2.2.1 → ax_lr sp bs LS' ls' → W p l e R s mid args below meth c H' locs' cells' slots' QF (F0 mid (pc + len) LS' (st'.map (ax_v sp bs))) :=
    fun ls' st' n' sl' es' H' locs' cells' slots' LS' hk h1 h2 h3 => hk m hm hchk p e R s mid args below meth c n0 sl0 QF hC hE H' locs' cells' slots' LS' h1 h2 h3
  have nx0 : ∀ st', ax_S l sp bs tA D X L xs d nb sb M rest (pc + len) ls st' n sl es Q → W p l e R s mid args below meth c H locs cells slots QF (F0 mid (pc + len) LS (st'.map (ax_v sp bs))) := fun st' hk => nx _ _ _ _ _ _ _ _ _ _ hk hSx hll hLr
  have h1 : 1 = len := hln.resolve_left (show ¬ (1 = 0) by decide)
  subst h1
  cases henc
  dsimp only [ax_I] at hF
  unfold ax_ii at hF
  split at hF
  · exact lv_iadd hx hb hdec (nx0 _ hF)
  · exact hF.elim
set_option maxHeartbeats 1000000 in
theorem ax_st_isub : ax_St l sp bs tA D X L xs (.isub) := by
  intro d nb sb M i len rest pc ls st n sl es Q m hm hdec hln henc hchk hF p e R s mid args below meth c n0 sl0 QF hC hE H locs cells slots LS hSx hll hLr
  obtain ⟨hx, hb, hml, hret, hlk, hini, hown0, hts, hK, hfr, hlo, hnb, hsb, hsz, hscr⟩ := id hC
  have hown : s.vm.findClass (ax_nm (M / 128)) = some mid.cls := by rw [← ax_m_cls hm]; exact hown0
  have nx : ∀ ls' st' n' sl' es' H' locs' cells' slots' LS', ax_S l sp bs tA D X L xs d nb sb M rest (pc + len) ls' st' n' sl' es' Q → ax_Sx sp bs tA D L xs nb sb n0 sl0 s n' sl' es' H' locs' cells' slots' → ls'.length = m.2.2.1 → ax_lr sp bs LS' ls' → W p l e R s mid args below meth c H' locs' cells' slots' QF (F0 mid (pc + len) LS' (st'.map (ax_v sp bs))) :=
    fun ls' st' n' sl' es' H' locs' cells' slots' LS' hk h1 h2 h3 => hk m hm hchk p e R s mid args below meth c n0 sl0 QF hC hE H' locs' cells' slots' LS' h1 h2 h3
  have nx0 : ∀ st', ax_S l sp bs tA D X L xs d nb sb M rest (pc + len) ls st' n sl es Q → W p l e R s mid args below meth c H locs cells slots QF (F0 mid (pc + len) LS (st'.map (ax_v sp bs))) := fun st' hk => nx _ _ _ _ _ _ _ _ _ _ hk hSx hll hLr
  have h1 : 1 = len := hln.resolve_left (show ¬ (1 = 0) by decide)
  subst h1
  cases henc
  dsimp only [ax_I] at hF
  unfold ax_ii at hF
  split at hF
  · exact lv_isub hx hb hdec (nx0 _ hF)
  · exact hF.elim
set_option maxHeartbeats 1000000 in
theorem ax_st_imul : ax_St l sp bs tA D X L xs (.imul) := by
  intro d nb sb M i len rest pc ls st n sl es Q m hm hdec hln henc hchk hF p e R s mid args below meth c n0 sl0 QF hC hE H locs cells slots LS hSx hll hLr
  obtain ⟨hx, hb, hml, hret, hlk, hini, hown0, hts, hK, hfr, hlo, hnb, hsb, hsz, hscr⟩ := id hC
  have hown : s.vm.findClass (ax_nm (M / 128)) = some mid.cls := by rw [← ax_m_cls hm]; exact hown0
  have nx : ∀ ls' st' n' sl' es' H' locs' cells' slots' LS', ax_S l sp bs tA D X L xs d nb sb M rest (pc + len) ls' st' n' sl' es' Q → ax_Sx sp bs tA D L xs nb sb n0 sl0 s n' sl' es' H' locs' cells' slots' → ls'.length = m.2.2.1 → ax_lr sp bs LS' ls' → W p l e R s mid args below meth c H' locs' cells' slots' QF (F0 mid (pc + len) LS' (st'.map (ax_v sp bs))) :=
    fun ls' st' n' sl' es' H' locs' cells' slots' LS' hk h1 h2 h3 => hk m hm hchk p e R s mid args below meth c n0 sl0 QF hC hE H' locs' cells' slots' LS' h1 h2 h3
  have nx0 : ∀ st', ax_S l sp bs tA D X L xs d nb sb M rest (pc + len) ls st' n sl es Q → W p l e R s mid args below meth c H locs cells slots QF (F0 mid (pc + len) LS (st'.map (ax_v sp bs))) := fun st' hk => nx _ _ _ _ _ _ _ _ _ _ hk hSx hll hLr
  have h1 : 1 = len := hln.resolve_left (show ¬ (1 = 0) by decide)
  subst h1
  cases henc
  dsimp only [ax_I] at hF
  unfold ax_ii at hF
  split at hF
  · exact lv_imul hx hb hdec (nx0 _ hF)
  · exact hF.elim
set_option maxHeartbeats 1000000 in
theorem ax_st_iand : ax_St l sp bs tA D X L xs (.iand) := by
  intro d nb sb M i len rest pc ls st n sl es Q m hm hdec hln henc hchk hF p e R s mid args below meth c n0 sl0 QF hC hE H locs cells slots LS hSx hll hLr
  obtain ⟨hx, hb, hml, hret, hlk, hini, hown0, hts, hK, hfr, hlo, hnb, hsb, hsz, hscr⟩ := id hC
  have hown : s.vm.findClass (ax_nm (M / 128)) = some mid.cls := by rw [← ax_m_cls hm]; exact hown0
  have nx : ∀ ls' st' n' sl' es' H' locs' cells' slots' LS', ax_S l sp bs tA D X L xs d nb sb M rest (pc + len) ls' st' n' sl' es' Q → ax_Sx sp bs tA D L xs nb sb n0 sl0 s n' sl' es' H' locs' cells' slots' → ls'.length = m.2.2.1 → ax_lr sp bs LS' ls' → W p l e R s mid args below meth c H' locs' cells' slots' QF (F0 mid (pc + len) LS' (st'.map (ax_v sp bs))) :=
    fun ls' st' n' sl' es' H' locs' cells' slots' LS' hk h1 h2 h3 => hk m hm hchk p e R s mid args below meth c n0 sl0 QF hC hE H' locs' cells' slots' LS' h1 h2 h3
  have nx0 : ∀ st', ax_S l sp bs tA D X L xs d nb sb M rest (pc + len) ls st' n sl es Q → W p l e R s mid args below meth c H locs cells slots QF (F0 mid (pc + len) LS (st'.map (ax_v sp bs))) := fun st' hk => nx _ _ _ _ _ _ _ _ _ _ hk hSx hll hLr
  have h1 : 1 = len := hln.resolve_left (show ¬ (1 = 0) by decide)
  subst h1
  cases henc
  dsimp only [ax_I] at hF
  unfold ax_ii at hF
  split at hF
  · exact lv_iand hx hb hdec (nx0 _ hF)
  · exact hF.elim
set_option maxHeartbeats 1000000 in
theorem ax_st_ior : ax_St l sp bs tA D X L xs (.ior) := by
  intro d nb sb M i len rest pc ls st n sl es Q m hm hdec hln henc hchk hF p e R s mid args below meth c n0 sl0 QF hC hE H locs cells slots LS hSx hll hLr
  obtain ⟨hx, hb, hml, hret, hlk, hini, hown0, hts, hK, hfr, hlo, hnb, hsb, hsz, hscr⟩ := id hC
  have hown : s.vm.findClass (ax_nm (M / 128)) = some mid.cls := by rw [← ax_m_cls hm]; exact hown0
  have nx : ∀ ls' st' n' sl' es' H' locs' cells' slots' LS', ax_S l sp bs tA D X L xs d nb sb M rest (pc + len) ls' st' n' sl' es' Q → ax_Sx sp bs tA D L xs nb sb n0 sl0 s n' sl' es' H' locs' cells' slots' → ls'.length = m.2.2.1 → ax_lr sp bs LS' ls' → W p l e R s mid args below meth c H' locs' cells' slots' QF (F0 mid (pc + len) LS' (st'.map (ax_v sp bs))) :=
    fun ls' st' n' sl' es' H' locs' cells' slots' LS' hk h1 h2 h3 => hk m hm hchk p e R s mid args below meth c n0 sl0 QF hC hE H' locs' cells' slots' LS' h1 h2 h3
  have nx0 : ∀ st', ax_S l sp bs tA D X L xs d nb sb M rest (pc + len) ls st' n sl es Q → W p l e R s mid args below meth c H locs cells slots QF (F0 mid (pc + len) LS (st'.map (ax_v sp bs))) := fun st' hk => nx _ _ _ _ _ _ _ _ _ _ hk hSx hll hLr
  have h1 : 1 = len := hln.resolve_left (show ¬ (1 = 0) by decide)
  subst h1
  cases henc
  dsimp only [ax_I] at hF
  unfold ax_ii at hF
  split at hF
  · exact lv_ior hx hb hdec (nx0 _ hF)
  · exact hF.elim
set_option maxHeartbeats 1000000 in
theorem ax_st_ixor : ax_St l sp bs tA D X L xs (.ixor) := by
  intro d nb sb M i len rest pc ls st n sl es Q m hm hdec hln henc hchk hF p e R s mid args below meth c n0 sl0 QF hC hE H locs cells slots LS hSx hll hLr
  obtain ⟨hx, hb, hml, hret, hlk, hini, hown0, hts, hK, hfr, hlo, hnb, hsb, hsz, hscr⟩ := id hC
  have hown : s.vm.findClass (ax_nm (M / 128)) = some mid.cls := by rw [← ax_m_cls hm]; exact hown0
  have nx : ∀ ls' st' n' sl' es' H' locs' cells' slots' LS', ax_S l sp bs tA D X L xs d nb sb M rest (pc + len) ls' st' n' sl' es' Q → ax_Sx sp bs tA D L xs nb sb n0 sl0 s n' sl' es' H' locs' cells' slots' → ls'.length = m.2.2.1 → ax_lr sp bs LS' ls' → W p l e R s mid args below meth c H' locs' cells' slots' QF (F0 mid (pc + len) LS' (st'.map (ax_v sp bs))) :=
    fun ls' st' n' sl' es' H' locs' cells' slots' LS' hk h1 h2 h3 => hk m hm hchk p e R s mid args below meth c n0 sl0 QF hC hE H' locs' cells' slots' LS' h1 h2 h3
  have nx0 : ∀ st', ax_S l sp bs tA D X L xs d nb sb M rest (pc + len) ls st' n sl es Q → W p l e R s mid args below meth c H locs cells slots QF (F0 mid (pc + len) LS (st'.map (ax_v sp bs))) := fun st' hk => nx _ _ _ _ _ _ _ _ _ _ hk hSx hll hLr
  have h1 : 1 = len := hln.resolve_left (show ¬ (1 = 0) by decide)
  subst h1
  cases henc
  dsimp only [ax_I] at hF
  unfold ax_ii at hF
  split at hF
  · exact lv_ixor hx hb hdec (nx0 _ hF)
  · exact hF.elim
set_option maxHeartbeats 1000000 in
theorem ax_st_ishl : ax_St l sp bs tA D X L xs (.ishl) := by
  intro d nb sb M i len rest pc ls st n sl es Q m hm hdec hln henc hchk hF p e R s mid args below meth c n0 sl0 QF hC hE H locs cells slots LS hSx hll hLr
  obtain ⟨hx, hb, hml, hret, hlk, hini, hown0, hts, hK, hfr, hlo, hnb, hsb, hsz, hscr⟩ := id hC
  have hown : s.vm.findClass (ax_nm (M / 128)) = some mid.cls := by rw [← ax_m_cls hm]; exact hown0
  have nx : ∀ ls' st' n' sl' es' H' locs' cells' slots' LS', ax_S l sp bs tA D X L xs d nb sb M rest (pc + len) ls' st' n' sl' es' Q → ax_Sx sp bs tA D L xs nb sb n0 sl0 s n' sl' es' H' locs' cells' slots' → ls'.length = m.2.2.1 → ax_lr sp bs LS' ls' → W p l e R s mid args below meth c H' locs' cells' slots' QF (F0 mid (pc + len) LS' (st'.map (ax_v sp bs))) :=
    fun ls' st' n' sl' es' H' locs' cells' slots' LS' hk h1 h2 h3 => hk m hm hchk p e R s mid args below meth c n0 sl0 QF hC hE H' locs' cells' slots' LS' h1 h2 h3
  have nx0 : ∀ st', ax_S l sp bs tA D X L xs d nb sb M rest (pc + len) ls st' n sl es Q → W p l e R s mid args below meth c H locs cells slots QF (F0 mid (pc + len) LS (st'.map (ax_v sp bs))) := fun st' hk => nx _ _ _ _ _ _ _ _ _ _ hk hSx hll hLr
  have h1 : 1 = len := hln.resolve_left (show ¬ (1 = 0) by decide)
  subst h1
  cases henc
  dsimp only [ax_I] at hF
  unfold ax_ii at hF
  split at hF
  · exact lv_ishl hx hb hdec (nx0 _ hF)
  · exact hF.elim
set_option maxHeartbeats 1000000 in
theorem ax_st_ishr : ax_St l sp bs tA D X L xs (.ishr) := by
  intro d nb sb M i len rest pc ls st n sl es Q m hm hdec hln henc hchk hF p e R s mid args below meth c n0 sl0 QF hC hE H locs cells slots LS hSx hll hLr
  obtain ⟨hx, hb, hml, hret, hlk, hini, hown0, hts, hK, hfr, hlo, hnb, hsb, hsz, hscr⟩ := id hC
  have hown : s.vm.findClass (ax_nm (M / 128)) = some mid.cls := by rw [← ax_m_cls hm]; exact hown0
  have nx : ∀ ls' st' n' sl' es' H' locs' cells' slots' LS', ax_S l sp bs tA D X L xs d nb sb M rest (pc + len) ls' st' n' sl' es' Q → ax_Sx sp bs tA D L xs nb sb n0 sl0 s n' sl' es' H' locs' cells' slots' → ls'.length = m.2.2.1 → ax_lr sp bs LS' ls' → W p l e R s mid args below meth c H' locs' cells' slots' QF (F0 mid (pc + len) LS' (st'.map (ax_v sp bs))) :=
    fun ls' st' n' sl' es' H' locs' cells' slots' LS' hk h1 h2 h3 => hk m hm hchk p e R s mid args below meth c n0 sl0 QF hC hE H' locs' cells' slots' LS' h1 h2 h3
  have nx0 : ∀ st', ax_S l sp bs tA D X L xs d nb sb M rest (pc + len) ls st' n sl es Q → W p l e R s mid args below meth c H locs cells slots QF (F0 mid (pc + len) LS (st'.map (ax_v sp bs))) := fun st' hk => nx _ _ _ _ _ _ _ _ _ _ hk hSx hll hLr
  have h1 : 1 = len := hln.resolve_left (show ¬ (1 = 0) by decide)
  subst h1
  cases henc
  dsimp only [ax_I] at hF
  unfold ax_ii at hF
  split at hF
  · exact lv_ishr hx hb hdec (nx0 _ hF)
  · exact hF.elim
set_option maxHeartbeats 1000000 in
theorem ax_st_ladd : ax_St l sp bs tA D X L xs (.ladd) := by
  intro d nb sb M i len rest pc ls st n sl es Q m hm hdec hln henc hchk hF p e R s mid args below meth c n0 sl0 QF hC hE H locs cells slots LS hSx hll hLr
  obtain ⟨hx, hb, hml, hret, hlk, hini, hown0, hts, hK, hfr, hlo, hnb, hsb, hsz, hscr⟩ := id hC
  have hown : s.vm.findClass (ax_nm (M / 128)) = some mid.cls := by rw [← ax_m_cls hm]; exact hown0
  have nx : ∀ ls' st' n' sl' es' H' locs' cells' slots' LS', ax_S l sp bs tA D X L xs d nb sb M rest (pc + len) ls' st' n' sl' es' Q → ax_Sx sp bs tA D L xs nb sb n0 sl0 s n' sl' es' H' locs' cells' slots' → ls'.length = m.2.2.1 → ax_lr sp bs LS' ls' → W p l e R s mid args below meth c H' locs' cells' slots' QF (F0 mid (pc + len) LS' (st'.map (ax_v sp bs))) :=
    fun ls' st' n' sl' es' H' locs' cells' slots' LS' hk h1 h2 h3 => hk m hm hchk p e R s mid args below meth c n0 sl0 QF hC hE H' locs' cells' slots' LS' h1 h2 h3
  have nx0 : ∀ st', ax_S l sp bs tA D X L xs d nb sb M rest (pc + len) ls st' n sl es Q → W p l e R s mid args below meth c H locs cells slots QF (F0 mid (pc + len) LS (st'.map (ax_v sp bs))) := fun st' hk => nx _ _ _ _ _ _ _ _ _ _ hk hSx hll hLr
  have h1 : 1 = len := hln.resolve_left (show ¬ (1 = 0) by decide)
  subst h1
  cases henc
  dsimp only [ax_I] at hF
  unfold ax_ll at hF
  split at hF
  · exact lv_ladd hx hb hdec (nx0 _ hF)
  · exact hF.elim
set_option maxHeartbeats 1000000 in
theorem ax_st_lsub : ax_St l sp bs tA D X L xs (.lsub) := by
  intro d nb sb M i len rest pc ls st n sl es Q m hm hdec hln henc hchk hF p e R s mid args below meth c n0 sl0 QF hC hE H locs cells slots LS hSx hll hLr
  obtain ⟨hx, hb, hml, hret, hlk, hini, hown0, hts, hK, hfr, hlo, hnb, hsb, hsz, hscr⟩ := id hC
  have hown : s.vm.findClass (ax_nm (M / 128)) = some mid.cls := by rw [← ax_m_cls hm]; exact hown0
  have nx : ∀ ls' st' n' sl' es' H' locs' cells' slots' LS', ax_S l sp bs tA D X L xs d nb sb M rest (pc + len) ls' st' n' sl' es' Q → ax_Sx sp bs tA D L xs nb sb n0 sl0 s n' sl' es' H' locs' cells' slots' → ls'.length = m.2.2.1 → ax_lr sp bs LS' ls' → W p l e R s mid args below meth c H' locs' cells' slots' QF (F0 mid (pc + len) LS' (st'.map (ax_v sp bs))) :=
    fun ls' st' n' sl' es' H' locs' cells' slots' LS' hk h1 h2 h3 => hk m hm hchk p e R s mid args below meth c n0 sl0 QF hC hE H' locs' cells' slots' LS' h1 h2 h3
  have nx0 : ∀ st', ax_S l sp bs tA D X L xs d nb sb M rest (pc + len) ls st' n sl es Q → W p l e R s mid args below meth c H locs cells slots QF (F0 mid (pc + len) LS (st'.map (ax_v sp bs))) := fun st' hk => nx _ _ _ _ _ _ _ _ _ _ hk hSx hll hLr
  have h1 : 1 = len := hln.resolve_left (show ¬ (1 = 0) by decide)
  subst h1
  cases henc
  dsimp only [ax_I] at hF
  unfold ax_ll at hF
  split at hF
  · exact lv_lsub hx hb hdec (nx0 _ hF)
  · exact hF.elim
set_option maxHeartbeats 1000000 in
theorem ax_st_lmul : ax_St l sp bs tA D X L xs (.lmul) := by
  intro d nb sb M i len rest pc ls st n sl es Q m hm hdec hln henc hchk hF p e R s mid args below meth c n0 sl0 QF hC hE H locs cells slots LS hSx hll hLr
  obtain ⟨hx, hb, hml, hret, hlk, hini, hown0, hts, hK, hfr, hlo, hnb, hsb, hsz, hscr⟩ := id hC
  have hown : s.vm.findClass (ax_nm (M / 128)) = some mid.cls := by rw [← ax_m_cls hm]; exact hown0
  have nx : ∀ ls' st' n' sl' es' H' locs' cells' slots' LS', ax_S l sp bs tA D X L xs d nb sb M rest (pc + len) ls' st' n' sl' es' Q → ax_Sx sp bs tA D L xs nb sb n0 sl0 s n' sl' es' H' locs' cells' slots' → ls'.length = m.2.2.1 → ax_lr sp bs LS' ls' → W p l e R s mid args below meth c H' locs' cells' slots' QF (F0 mid (pc + len) LS' (st'.map (ax_v sp bs))) :=
    fun ls' st' n' sl' es' H' locs' cells' slots' LS' hk h1 h2 h3 => hk m hm hchk p e R s mid args below meth c n0 sl0 QF hC hE H' locs' cells' slots' LS' h1 h2 h3
  have nx0 : ∀ st', ax_S l sp bs tA D X L xs d nb sb M rest (pc + len) ls st' n sl es Q → W p l e R s mid args below meth c H locs cells slots QF (F0 mid (pc + len) LS (st'.map (ax_v sp bs))) := fun st' hk => nx _ _ _ _ _ _ _ _ _ _ hk hSx hll hLr
  have h1 : 1 = len := hln.resolve_left (show ¬ (1 = 0) by decide)
  subst h1
  cases henc
  dsimp only [ax_I] at hF
  unfold ax_ll at hF
  split at hF
  · exact lv_lmul hx hb hdec (nx0 _ hF)
  · exact hF.elim
set_option maxHeartbeats 1000000 in
theorem ax_st_land : ax_St l sp bs tA D X L xs (.land) := by
  intro d nb sb M i len rest pc ls st n sl es Q m hm hdec hln henc hchk hF p e R s mid args below meth c n0 sl0 QF hC hE H locs cells slots LS hSx hll hLr
  obtain ⟨hx, hb, hml, hret, hlk, hini, hown0, hts, hK, hfr, hlo, hnb, hsb, hsz, hscr⟩ := id hC
  have hown : s.vm.findClass (ax_nm (M / 128)) = some mid.cls := by rw [← ax_m_cls hm]; exact hown0
  have nx : ∀ ls' st' n' sl' es' H' locs' cells' slots' LS', ax_S l sp bs tA D X L xs d nb sb M rest (pc + len) ls' st' n' sl' es' Q → ax_Sx sp bs tA D L xs nb sb n0 sl0 s n' sl' es' H' locs' cells' slots' → ls'.length = m.2.2.1 → ax_lr sp bs LS' ls' → W p l e R s mid args below meth c H' locs' cells' slots' QF (F0 mid (pc + len) LS' (st'.map (ax_v sp bs))) :=
    fun ls' st' n' sl' es' H' locs' cells' slots' LS' hk h1 h2 h3 => hk m hm hchk p e R s mid args below meth c n0 sl0 QF hC hE H' locs' cells' slots' LS' h1 h2 h3
  have nx0 : ∀ st', ax_S l sp bs tA D X L xs d nb sb M rest (pc + len) ls st' n sl es Q → W p l e R s mid args below meth c H locs cells slots QF (F0 mid (pc + len) LS (st'.map (ax_v sp bs))) := fun st' hk => nx _ _ _ _ _ _ _ _ _ _ hk hSx hll hLr
  have h1 : 1 = len := hln.resolve_left (show ¬ (1 = 0) by decide)
  subst h1
  cases henc
  dsimp only [ax_I] at hF
  unfold ax_ll at hF
  split at hF
  · exact lv_land hx hb hdec (nx0 _ hF)
  · exact hF.elim
set_option maxHeartbeats 1000000 in
theorem ax_st_lor : ax_St l sp bs tA D X L xs (.lor) := by
  intro d nb sb M i len rest pc ls st n sl es Q m hm hdec hln henc hchk hF p e R s mid args below meth c n0 sl0 QF hC hE H locs cells slots LS hSx hll hLr
  obtain ⟨hx, hb, hml, hret, hlk, hini, hown0, hts, hK, hfr, hlo, hnb, hsb, hsz, hscr⟩ := id hC
  have hown : s.vm.findClass (ax_nm (M / 128)) = some mid.cls := by rw [← ax_m_cls hm]; exact hown0
  have nx : ∀ ls' st' n' sl' es' H' locs' cells' slots' LS', ax_S l sp bs tA D X L xs d nb sb M rest (pc + len) ls' st' n' sl' es' Q → ax_Sx sp bs tA D L xs nb sb n0 sl0 s n' sl' es' H' locs' cells' slots' → ls'.length = m.2.2.1 → ax_lr sp bs LS' ls' → W p l e R s mid args below meth c H' locs' cells' slots' QF (F0 mid (pc + len) LS' (st'.map (ax_v sp bs))) :=
    fun ls' st' n' sl' es' H' locs' cells' slots' LS' hk h1 h2 h3 => hk m hm hchk p e R s mid args below meth c n0 sl0 QF hC hE H' locs' cells' slots' LS' h1 h2 h3
  have nx0 : ∀ st', ax_S l sp bs tA D X L xs d nb sb M rest (pc + len) ls st' n sl es Q → W p l e R s mid args below meth c H locs cells slots QF (F0 mid (pc + len) LS (st'.map (ax_v sp bs))) := fun st' hk => nx _ _ _ _ _ _ _ _ _ _ hk hSx hll hLr
  have h1 : 1 = len := hln.resolve_left (show ¬ (1 = 0) by decide)
  subst h1
  cases henc
  dsimp only [ax_I] at hF
  unfold ax_ll at hF
  split at hF
  · exact lv_lor hx hb hdec (nx0 _ hF)
  · exact hF.elim
set_option maxHeartbeats 1000000 in
theorem ax_st_iushr : ax_St l sp bs tA D X L xs (.iushr) := by
  intro d nb sb M i len rest pc ls st n sl es Q m hm hdec hln henc hchk hF p e R s mid args below meth c n0 sl0 QF hC hE H locs cells slots LS hSx hll hLr
  obtain ⟨hx, hb, hml, hret, hlk, hini, hown0, hts, hK, hfr, hlo, hnb, hsb, hsz, hscr⟩ := id hC
  have hown : s.vm.findClass (ax_nm (M / 128)) = some mid.cls := by rw [← ax_m_cls hm]; exact hown0
  have nx : ∀ ls' st' n' sl' es' H' locs' cells' slots' LS', ax_S l sp bs tA D X L xs d nb sb M rest (pc + len) ls' st' n' sl' es' Q → ax_Sx sp bs tA D L xs nb sb n0 sl0 s n' sl' es' H' locs' cells' slots' → ls'.length = m.2.2.1 → ax_lr sp bs LS' ls' → W p l e R s mid args below meth c H' locs' cells' slots' QF (F0 mid (pc + len) LS' (st'.map (ax_v sp bs))) :=
    fun ls' st' n' sl' es' H' locs' cells' slots' LS' hk h1 h2 h3 => hk m hm hchk p e R s mid args below meth c n0 sl0 QF hC hE H' locs' cells' slots' LS' h1 h2 h3
  have nx0 : ∀ st', ax_S l sp bs tA D X L xs d nb sb M rest (pc + len) ls st' n sl es Q → W p l e R s mid args below meth c H locs cells slots QF (F0 mid (pc + len) LS (st'.map (ax_v sp bs))) := fun st' hk => nx _ _ _ _ _ _ _ _ _ _ hk hSx hll hLr
  have h1 : 1 = len := hln.resolve_left (show ¬ (1 = 0) by decide)
  subst h1
  cases henc
  dsimp only [ax_I] at hF
  unfold ax_ii at hF
  split at hF
  · exact lv_iushr hx hb hdec rfl (nx0 _ hF)
  · exact hF.elim
set_option maxHeartbeats 1000000 in
theorem ax_st_lshl : ax_St l sp bs tA D X L xs (.lshl) := by
  intro d nb sb M i len rest pc ls st n sl es Q m hm hdec hln henc hchk hF p e R s mid args below meth c n0 sl0 QF hC hE H locs cells slots LS hSx hll hLr
  obtain ⟨hx, hb, hml, hret, hlk, hini, hown0, hts, hK, hfr, hlo, hnb, hsb, hsz, hscr⟩ := id hC
  have hown : s.vm.findClass (ax_nm (M / 128)) = some mid.cls := by rw [← ax_m_cls hm]; exact hown0
  have nx : ∀ ls' st' n' sl' es' H' locs' cells' slots' LS', ax_S l sp bs tA D X L xs d nb sb M rest (pc + len) ls' st' n' sl' es' Q → ax_Sx sp bs tA D L xs nb sb n0 sl0 s n' sl' es' H' locs' cells' slots' → ls'.length = m.2.2.1 → ax_lr sp bs LS' ls' → W p l e R s mid args below meth c H' locs' cells' slots' QF (F0 mid (pc + len) LS' (st'.map (ax_v sp bs))) :=
    fun ls' st' n' sl' es' H' locs' cells' slots' LS' hk h1 h2 h3 => hk m hm hchk p e R s mid args below meth c n0 sl0 QF hC hE H' locs' cells' slots' LS' h1 h2 h3
  have nx0 : ∀ st', ax_S l sp bs tA D X L xs d nb sb M rest (pc + len) ls st' n sl es Q → W p l e R s mid args below meth c H locs cells slots QF (F0 mid (pc + len) LS (st'.map (ax_v sp bs))) := fun st' hk => nx _ _ _ _ _ _ _ _ _ _ hk hSx hll hLr
  have h1 : 1 = len := hln.resolve_left (show ¬ (1 = 0) by decide)
  subst h1
  cases henc
  dsimp only [ax_I] at hF
  unfold ax_li at hF
  split at hF
  · exact lv_lshl hx hb hdec rfl (nx0 _ hF)
  · exact hF.elim
set_option maxHeartbeats 1000000 in
theorem ax_st_lshr : ax_St l sp bs tA D X L xs (.lshr) := by
  intro d nb sb M i len rest pc ls st n sl es Q m hm hdec hln henc hchk hF p e R s mid args below meth c n0 sl0 QF hC hE H locs cells slots LS hSx hll hLr
  obtain ⟨hx, hb, hml, hret, hlk, hini, hown0, hts, hK, hfr, hlo, hnb, hsb, hsz, hscr⟩ := id hC
  have hown : s.vm.findClass (ax_nm (M / 128)) = some mid.cls := by rw [← ax_m_cls hm]; exact hown0
  have nx : ∀ ls' st' n' sl' es' H' locs' cells' slots' LS', ax_S l sp bs tA D X L xs d nb sb M rest (pc + len) ls' st' n' sl' es' Q → ax_Sx sp bs tA D L xs nb sb n0 sl0 s n' sl' es' H' locs' cells' slots' → ls'.length = m.2.2.1 → ax_lr sp bs LS' ls' → W p l e R s mid args below meth c H' locs' cells' slots' QF (F0 mid (pc + len) LS' (st'.map (ax_v sp bs))) :=
    fun ls' st' n' sl' es' H' locs' cells' slots' LS' hk h1 h2 h3 => hk m hm hchk p e R s mid args below meth c n0 sl0 QF hC hE H' locs' cells' slots' LS' h1 h2 h3
  have nx0 : ∀ st', ax_S l sp bs tA D X L xs d nb sb M rest (pc + len) ls st' n sl es Q → W p l e R s mid args below meth c H locs cells slots QF (F0 mid (pc + len) LS (st'.map (ax_v sp bs))) := fun st' hk => nx _ _ _ _ _ _ _ _ _ _ hk hSx hll hLr
  have h1 : 1 = len := hln.resolve_left (show ¬ (1 = 0) by decide)
  subst h1
  cases henc
  dsimp only [ax_I] at hF
  unfold ax_li at hF
  split at hF
  · exact lv_lshr hx hb hdec rfl (nx0 _ hF)
  · exact hF.elim
set_option maxHeartbeats 1000000 in
theorem ax_st_lushr : ax_St l sp bs tA D X L xs (.lushr) := by
  intro d nb sb M i len rest pc ls st n sl es Q m hm hdec hln henc hchk hF p e R s mid args below meth c n0 sl0 QF hC hE H locs cells slots LS hSx hll hLr
  obtain ⟨hx, hb, hml, hret, hlk, hini, hown0, hts, hK, hfr, hlo, hnb, hsb, hsz, hscr⟩ := id hC
  have hown : s.vm.findClass (ax_nm (M / 128)) = some mid.cls := by rw [← ax_m_cls hm]; exact hown0
  have nx : ∀ ls' st' n' sl' es' H' locs' cells' slots' LS', ax_S l sp bs tA D X L xs d nb sb M rest (pc + len) ls' st' n' sl' es' Q → ax_Sx sp bs tA D L xs nb sb n0 sl0 s n' sl' es' H' locs' cells' slots' → ls'.length = m.2.2.1 → ax_lr sp bs LS' ls' → W p l e R s mid args below meth c H' locs' cells' slots' QF (F0 mid (pc + len) LS' (st'.map (ax_v sp bs))) :=
    fun ls' st' n' sl' es' H' locs' cells' slots' LS' hk h1 h2 h3 => hk m hm hchk p e R s mid args below meth c n0 sl0 QF hC hE H' locs' cells' slots' LS' h1 h2 h3
  have nx0 : ∀ st', ax_S l sp bs tA D X L xs d nb sb M rest (pc + len) ls st' n sl es Q → W p l e R s mid args below meth c H locs cells slots QF (F0 mid (pc + len) LS (st'.map (ax_v sp bs))) := fun st' hk => nx _ _ _ _ _ _ _ _ _ _ hk hSx hll hLr
  have h1 : 1 = len := hln.resolve_left (show ¬ (1 = 0) by decide)
  subst h1
  cases henc
  dsimp only [ax_I] at hF
  unfold ax_li at hF
  split at hF
  · exact lv_lushr hx hb hdec rfl (nx0 _ hF)
  · exact hF.elim
set_option maxHeartbeats 1000000 in
theorem ax_st_idiv : ax_St l sp bs tA D X L xs (.idiv) := by
  intro d nb sb M i len rest pc ls st n sl es Q m hm hdec hln henc hchk hF p e R s mid args below meth c n0 sl0 QF hC hE H locs cells slots LS hSx hll hLr
  obtain ⟨hx, hb, hml, hret, hlk, hini, hown0, hts, hK, hfr, hlo, hnb, hsb, hsz, hscr⟩ := id hC
  have hown : s.vm.findClass (ax_nm (M / 128)) = some mid.cls := by rw [← ax_m_cls hm]; exact hown0
  have nx : ∀ ls' st' n' sl' es' H' locs' cells' slots' LS', ax_S l sp bs tA D X L xs d nb sb M rest (pc + len) ls' st' n' sl' es' Q → ax_Sx sp bs tA D L xs nb sb n0 sl0 s n' sl' es' H' locs' cells' slots' → ls'.length = m.2.2.1 → ax_lr sp bs LS' ls' → W p l e R s mid args below meth c H' locs' cells' slots' QF (F0 mid (pc + len) LS' (st'.map (ax_v sp bs))) :=
    fun ls' st' n' sl' es' H' locs' cells' slots' LS' hk h1 h2 h3 => hk m hm hchk p e R s mid args below meth c n0 sl0 QF hC hE H' locs' cells' slots' LS' h1 h2 h3
  have nx0 : ∀ st', ax_S l sp bs tA D X L xs d nb sb M rest (pc + len) ls st' n sl es Q → W p l e R s mid args below meth c H locs cells slots QF (F0 mid (pc + len) LS (st'.map (ax_v sp bs))) := fun st' hk => nx _ _ _ _ _ _ _ _ _ _ hk hSx hll hLr
  have h1 : 1 = len := hln.resolve_left (show ¬ (1 = 0) by decide)
  subst h1
  cases henc
  dsimp only [ax_I] at hF
  split at hF
  · exact lv_idiv hx hb hdec hF.1 (nx0 _ hF.2)
  · exact hF.elim
set_option maxHeartbeats 1000000 in
theorem ax_st_irem : ax_St l sp bs tA D X L xs (.irem) := by
  intro d nb sb M i len rest pc ls st n sl es Q m hm hdec hln henc hchk hF p e R s mid args below meth c n0 sl0 QF hC hE H locs cells slots LS hSx hll hLr
  obtain ⟨hx, hb, hml, hret, hlk, hini, hown0, hts, hK, hfr, hlo, hnb, hsb, hsz, hscr⟩ := id hC
  have hown : s.vm.findClass (ax_nm (M / 128)) = some mid.cls := by rw [← ax_m_cls hm]; exact hown0
  have nx : ∀ ls' st' n' sl' es' H' locs' cells' slots' LS', ax_S l sp bs tA D X L xs d nb sb M rest (pc + len) ls' st' n' sl' es' Q → ax_Sx sp bs tA D L xs nb sb n0 sl0 s n' sl' es' H' locs' cells' slots' → ls'.length = m.2.2.1 → ax_lr sp bs LS' ls' → W p l e R s mid args below meth c H' locs' cells' slots' QF (F0 mid (pc + len) LS' (st'.map (ax_v sp bs))) :=
    fun ls' st' n' sl' es' H' locs' cells' slots' LS' hk h1 h2 h3 => hk m hm hchk p e R s mid args below meth c n0 sl0 QF hC hE H' locs' cells' slots' LS' h1 h2 h3
  have nx0 : ∀ st', ax_S l sp bs tA D X L xs d nb sb M rest (pc + len) ls st' n sl es Q → W p l e R s mid args below meth c H locs cells slots QF (F0 mid (pc + len) LS (st'.map (ax_v sp bs))) := fun st' hk => nx _ _ _ _ _ _ _ _ _ _ hk hSx hll hLr
  have h1 : 1 = len := hln.resolve_left (show ¬ (1 = 0) by decide)
  subst h1
  cases henc
  dsimp only [ax_I] at hF
  split at hF
  · exact lv_irem hx hb hdec hF.1 (nx0 _ hF.2)
  · exact hF.elim
set_option maxHeartbeats 1000000 in
theorem ax_st_ldiv : ax_St l sp bs tA D X L xs (.ldiv) := by
  intro d nb sb M i len rest pc ls st n sl es Q m hm hdec hln henc hchk hF p e R s mid args below meth c n0 sl0 QF hC hE H locs cells slots LS hSx hll hLr
  obtain ⟨hx, hb, hml, hret, hlk, hini, hown0, hts, hK, hfr, hlo, hnb, hsb, hsz, hscr⟩ := id hC
  have hown : s.vm.findClass (ax_nm (M / 128)) = some mid.cls := by rw [← ax_m_cls hm]; exact hown0
  have nx : ∀ ls' st' n' sl' es' H' locs' cells' slots' LS', ax_S l sp bs tA D X L xs d nb sb M rest (pc + len) ls' st' n' sl' es' Q → ax_Sx sp bs tA D L xs nb sb n0 sl0 s n' sl' es' H' locs' cells' slots' → ls'.length = m.2.2.1 → ax_lr sp bs LS' ls' → W p l e R s mid args below meth c H' locs' cells' slots' QF (F0 mid (pc + len) LS' (st'.map (ax_v sp bs))) :=
    fun ls' st' n' sl' es' H' locs' cells' slots' LS' hk h1 h2 h3 => hk m hm hchk p e R s mid args below meth c n0 sl0 QF hC hE H' locs' cells' slots' LS' h1 h2 h3
  have nx0 : ∀ st', ax_S l sp bs tA D X L xs d nb sb M rest (pc + len) ls st' n sl es Q → W p l e R s mid args below meth c H locs cells slots QF (F0 mid (pc + len) LS (st'.map (ax_v sp bs))) := fun st' hk => nx _ _ _ _ _ _ _ _ _ _ hk hSx hll hLr
  have h1 : 1 = len := hln.resolve_left (show ¬ (1 = 0) by decide)
  subst h1
  cases henc
  dsimp only [ax_I] at hF
  split at hF
  · exact lv_ldiv hx hb hdec hF.1 (nx0 _ hF.2)
  · exact hF.elim
set_option maxHeartbeats 1000000 in
theorem ax_st_lrem : ax_St l sp bs tA D X L xs (.lrem) := by
  intro d nb sb M i len rest pc ls st n sl es Q m hm hdec hln henc hchk hF p e R s mid args below meth c n0 sl0 QF hC hE H locs cells slots LS hSx hll hLr
  obtain ⟨hx, hb, hml, hret, hlk, hini, hown0, hts, hK, hfr, hlo, hnb, hsb, hsz, hscr⟩ := id hC
  have hown : s.vm.findClass (ax_nm (M / 128)) = some mid.cls := by rw [← ax_m_cls hm]; exact hown0
  have nx : ∀ ls' st' n' sl' es' H' locs' cells' slots' LS', ax_S l sp bs tA D X L xs d nb sb M rest (pc + len) ls' st' n' sl' es' Q → ax_Sx sp bs tA D L xs nb sb n0 sl0 s n' sl' es' H' locs' cells' slots' → ls'.length = m.2.2.1 → ax_lr sp bs LS' ls' → W p l e R s mid args below meth c H' locs' cells' slots' QF (F0 mid (pc + len) LS' (st'.map (ax_v sp bs))) :=
    fun ls' st' n' sl' es' H' locs' cells' slots' LS' hk h1 h2 h3 => hk m hm hchk p e R s mid args below meth c n0 sl0 QF hC hE H' locs' cells' slots' LS' h1 h2 h3
  have nx0 : ∀ st', ax_S l sp bs tA D X L xs d nb sb M rest (pc + len) ls st' n sl es Q → W p l e R s mid args below meth c H locs cells slots QF (F0 mid (pc + len) LS (st'.map (ax_v sp bs))) := fun st' hk => nx _ _ _ _ _ _ _ _ _ _ hk hSx hll hLr
  have h1 : 1 = len := hln.resolve_left (show ¬ (1 = 0) by decide)
  subst h1
  cases henc
  dsimp only [ax_I] at hF
  split at hF
  · exact lv_lrem hx hb hdec hF.1 (nx0 _ hF.2)
  · exact hF.elim
set_option maxHeartbeats 1000000 in
theorem ax_st_ineg : ax_St l sp bs tA D X L xs (.ineg) := by
  intro d nb sb M i len rest pc ls st n sl es Q m hm hdec hln henc hchk hF p e R s mid args below meth c n0 sl0 QF hC hE H locs cells slots LS hSx hll hLr
  obtain ⟨hx, hb, hml, hret, hlk, hini, hown0, hts, hK, hfr, hlo, hnb, hsb, hsz, hscr⟩ := id hC
  have hown : s.vm.findClass (ax_nm (M / 128)) = some mid.cls := by rw [← ax_m_cls hm]; exact hown0
  have nx : ∀ ls' st' n' sl' es' H' locs' cells' slots' LS', ax_S l sp bs tA D X L xs d nb sb M rest (pc + len) ls' st' n' sl' es' Q → ax_Sx sp bs tA D L xs nb sb n0 sl0 s n' sl' es' H' locs' cells' slots' → ls'.length = m.2.2.1 → ax_lr sp bs LS' ls' → W p l e R s mid args below meth c H' locs' cells' slots' QF (F0 mid (pc + len) LS' (st'.map (ax_v sp bs))) :=
    fun ls' st' n' sl' es' H' locs' cells' slots' LS' hk h1 h2 h3 => hk m hm hchk p e R s mid args below meth c n0 sl0 QF hC hE H' locs' cells' slots' LS' h1 h2 h3
  have nx0 : ∀ st', ax_S l sp bs tA D X L xs d nb sb M rest (pc + len) ls st' n sl es Q → W p l e R s mid args below meth c H locs cells slots QF (F0 mid (pc + len) LS (st'.map (ax_v sp bs))) := fun st' hk => nx _ _ _ _ _ _ _ _ _ _ hk hSx hll hLr
  have h1 : 1 = len := hln.resolve_left (show ¬ (1 = 0) by decide)
  subst h1
  cases henc
  dsimp only [ax_I] at hF
  split at hF
  · exact lv_ineg hx hb hdec (nx0 _ hF)
  · exact hF.elim
set_option maxHeartbeats 1000000 in
theorem ax_st_lcmp : ax_St l sp bs tA D X L xs (.lcmp) := by
  intro d nb sb M i len rest pc ls st n sl es Q m hm hdec hln henc hchk hF p e R s mid args below meth c n0 sl0 QF hC hE H locs cells slots LS hSx hll hLr
  obtain ⟨hx, hb, hml, hret, hlk, hini, hown0, hts, hK, hfr, hlo, hnb, hsb, hsz, hscr⟩ := id hC
  have hown : s.vm.findClass (ax_nm (M / 128)) = some mid.cls := by rw [← ax_m_cls hm]; exact hown0
  have nx : ∀ ls' st' n' sl' es' H' locs' cells' slots' LS', ax_S l sp bs tA D X L xs d nb sb M rest (pc + len) ls' st' n' sl' es' Q → ax_Sx sp bs tA D L xs nb sb n0 sl0 s n' sl' es' H' locs' cells' slots' → ls'.length = m.2.2.1 → ax_lr sp bs LS' ls' → W p l e R s mid args below meth c H' locs' cells' slots' QF (F0 mid (pc + len) LS' (st'.map (ax_v sp bs))) :=
    fun ls' st' n' sl' es' H' locs' cells' slots' LS' hk h1 h2 h3 => hk m hm hchk p e R s mid args below meth c n0 sl0 QF hC hE H' locs' cells' slots' LS' h1 h2 h3
  have nx0 : ∀ st', ax_S l sp bs tA D X L xs d nb sb M rest (pc + len) ls st' n sl es Q → W p l e R s mid args below meth c H locs cells slots QF (F0 mid (pc + len) LS (st'.map (ax_v sp bs))) := fun st' hk => nx _ _ _ _ _ _ _ _ _ _ hk hSx hll hLr
  have h1 : 1 = len := hln.resolve_left (show ¬ (1 = 0) by decide)
  subst h1
  cases henc
  dsimp only [ax_I] at hF
  split at hF
  · exact W.lcmp hx hb hdec (nx0 _ hF)
  · exact hF.elim
set_option maxHeartbeats 1000000 in
theorem ax_st_i2l : ax_St l sp bs tA D X L xs (.i2l) := by
  intro d nb sb M i len rest pc ls st n sl es Q m hm hdec hln henc hchk hF p e R s mid args below meth c n0 sl0 QF hC hE H locs cells slots LS hSx hll hLr
  obtain ⟨hx, hb, hml, hret, hlk, hini, hown0, hts, hK, hfr, hlo, hnb, hsb, hsz, hscr⟩ := id hC
  have hown : s.vm.findClass (ax_nm (M / 128)) = some mid.cls := by rw [← ax_m_cls hm]; exact hown0
  have nx : ∀ ls' st' n' sl' es' H' locs' cells' slots' LS', ax_S l sp bs tA D X L xs d nb sb M rest (pc + len) ls' st' n' sl' es' Q → ax_Sx sp bs tA D L xs nb sb n0 sl0 s n' sl' es' H' locs' cells' slots' → ls'.length = m.2.2.1 → ax_lr sp bs LS' ls' → W p l e R s mid args below meth c H' locs' cells' slots' QF (F0 mid (pc + len) LS' (st'.map (ax_v sp bs))) :=
    fun ls' st' n' sl' es' H' locs' cells' slots' LS' hk h1 h2 h3 => hk m hm hchk p e R s mid args below meth c n0 sl0 QF hC hE H' locs' cells' slots' LS' h1 h2 h3
  have nx0 : ∀ st', ax_S l sp bs tA D X L xs d nb sb M rest (pc + len) ls st' n sl es Q → W p l e R s mid args below meth c H locs cells slots QF (F0 mid (pc + len) LS (st'.map (ax_v sp bs))) := fun st' hk => nx _ _ _ _ _ _ _ _ _ _ hk hSx hll hLr
  have h1 : 1 = len := hln.resolve_left (show ¬ (1 = 0) by decide)
  subst h1
  cases henc
  dsimp only [ax_I] at hF
  split at hF
  · exact lv_i2l hx hb hdec rfl (nx0 _ hF)
  · exact hF.elim
set_option maxHeartbeats 1000000 in
theorem ax_st_l2i : ax_St l sp bs tA D X L xs (.l2i) := by
  intro d nb sb M i len rest pc ls st n sl es Q m hm hdec hln henc hchk hF p e R s mid args below meth c n0 sl0 QF hC hE H locs cells slots LS hSx hll hLr
  obtain ⟨hx, hb, hml, hret, hlk, hini, hown0, hts, hK, hfr, hlo, hnb, hsb, hsz, hscr⟩ := id hC
  have hown : s.vm.findClass (ax_nm (M / 128)) = some mid.cls := by rw [← ax_m_cls hm]; exact hown0
  have nx : ∀ ls' st' n' sl' es' H' locs' cells' slots' LS', ax_S l sp bs tA D X L xs d nb sb M rest (pc + len) ls' st' n' sl' es' Q → ax_Sx sp bs tA D L xs nb sb n0 sl0 s n' sl' es' H' locs' cells' slots' → ls'.length = m.2.2.1 → ax_lr sp bs LS' ls' → W p l e R s mid args below meth c H' locs' cells' slots' QF (F0 mid (pc + len) LS' (st'.map (ax_v sp bs))) :=
    fun ls' st' n' sl' es' H' locs' cells' slots' LS' hk h1 h2 h3 => hk m hm hchk p e R s mid args below meth c n0 sl0 QF hC hE H' locs' cells' slots' LS' h1 h2 h3
  have nx0 : ∀ st', ax_S l sp bs tA D X L xs d nb sb M rest (pc + len) ls st' n sl es Q → W p l e R s mid args below meth c H locs cells slots QF (F0 mid (pc + len) LS (st'.map (ax_v sp bs))) := fun st' hk => nx _ _ _ _ _ _ _ _ _ _ hk hSx hll hLr
  have h1 : 1 = len := hln.resolve_left (show ¬ (1 = 0) by decide)
  subst h1
  cases henc
  dsimp only [ax_I] at hF
  split at hF
  · exact lv_l2i hx hb hdec rfl (nx0 _ hF)
  · exact hF.elim
set_option maxHeartbeats 1000000 in
theorem ax_st_i2b : ax_St l sp bs tA D X L xs (.i2b) := by
  intro d nb sb M i len rest pc ls st n sl es Q m hm hdec hln henc hchk hF p e R s mid args below meth c n0 sl0 QF hC hE H locs cells slots LS hSx hll hLr
  obtain ⟨hx, hb, hml, hret, hlk, hini, hown0, hts, hK, hfr, hlo, hnb, hsb, hsz, hscr⟩ := id hC
  have hown : s.vm.findClass (ax_nm (M / 128)) = some mid.cls := by rw [← ax_m_cls hm]; exact hown0
  have nx : ∀ ls' st' n' sl' es' H' locs' cells' slots' LS', ax_S l sp bs tA D X L xs d nb sb M rest (pc + len) ls' st' n' sl' es' Q → ax_Sx sp bs tA D L xs nb sb n0 sl0 s n' sl' es' H' locs' cells' slots' → ls'.length = m.2.2.1 → ax_lr sp bs LS' ls' → W p l e R s mid args below meth c H' locs' cells' slots' QF (F0 mid (pc + len) LS' (st'.map (ax_v sp bs))) :=
    fun ls' st' n' sl' es' H' locs' cells' slots' LS' hk h1 h2 h3 => hk m hm hchk p e R s mid args below meth c n0 sl0 QF hC hE H' locs' cells' slots' LS' h1 h2 h3
  have nx0 : ∀ st', ax_S l sp bs tA D X L xs d nb sb M rest (pc + len) ls st' n sl es Q → W p l e R s mid args below meth c H locs cells slots QF (F0 mid (pc + len) LS (st'.map (ax_v sp bs))) := fun st' hk => nx _ _ _ _ _ _ _ _ _ _ hk hSx hll hLr
  have h1 : 1 = len := hln.resolve_left (show ¬ (1 = 0) by decide)
  subst h1
  cases henc
  dsimp only [ax_I] at hF
  split at hF
  · exact lv_i2b hx hb hdec rfl (nx0 _ hF)
  · exact hF.elim
set_option maxHeartbeats 1000000 in
theorem ax_st_dup : ax_St l sp bs tA D X L xs (.dup) := by
  intro d nb sb M i len rest pc ls st n sl es Q m hm hdec hln henc hchk hF p e R s mid args below meth c n0 sl0 QF hC hE H locs cells slots LS hSx hll hLr
  obtain ⟨hx, hb, hml, hret, hlk, hini, hown0, hts, hK, hfr, hlo, hnb, hsb, hsz, hscr⟩ := id hC
  have hown : s.vm.findClass (ax_nm (M / 128)) = some mid.cls := by rw [← ax_m_cls hm]; exact hown0
  have nx : ∀ ls' st' n' sl' es' H' locs' cells' slots' LS', ax_S l sp bs tA D X L xs d nb sb M rest (pc + len) ls' st' n' sl' es' Q → ax_Sx sp bs tA D L xs nb sb n0 sl0 s n' sl' es' H' locs' cells' slots' → ls'.length = m.2.2.1 → ax_lr sp bs LS' ls' → W p l e R s mid args below meth c H' locs' cells' slots' QF (F0 mid (pc + len) LS' (st'.map (ax_v sp bs))) :=
    fun ls' st' n' sl' es' H' locs' cells' slots' LS' hk h1 h2 h3 => hk m hm hchk p e R s mid args below meth c n0 sl0 QF hC hE H' locs' cells' slots' LS' h1 h2 h3
  have nx0 : ∀ st', ax_S l sp bs tA D X L xs d nb sb M rest (pc + len) ls st' n sl es Q → W p l e R s mid args below meth c H locs cells slots QF (F0 mid (pc + len) LS (st'.map (ax_v sp bs))) := fun st' hk => nx _ _ _ _ _ _ _ _ _ _ hk hSx hll hLr
  have h1 : 1 = len := hln.resolve_left (show ¬ (1 = 0) by decide)
  subst h1
  cases henc
  dsimp only [ax_I] at hF
  split at hF
  · exact lv_dup hx hb hdec (by rw [ax_v_cat]; exact hF.1) (nx0 _ hF.2)
  · exact hF.elim
set_option maxHeartbeats 1000000 in
theorem ax_st_pop : ax_St l sp bs tA D X L xs (.pop) := by
  intro d nb sb M i len rest pc ls st n sl es Q m hm hdec hln henc hchk hF p e R s mid args below meth c n0 sl0 QF hC hE H locs cells slots LS hSx hll hLr
  obtain ⟨hx, hb, hml, hret, hlk, hini, hown0, hts, hK, hfr, hlo, hnb, hsb, hsz, hscr⟩ := id hC
  have hown : s.vm.findClass (ax_nm (M / 128)) = some mid.cls := by rw [← ax_m_cls hm]; exact hown0
  have nx : ∀ ls' st' n' sl' es' H' locs' cells' slots' LS', ax_S l sp bs tA D X L xs d nb sb M rest (pc + len) ls' st' n' sl' es' Q → ax_Sx sp bs tA D L xs nb sb n0 sl0 s n' sl' es' H' locs' cells' slots' → ls'.length = m.2.2.1 → ax_lr sp bs LS' ls' → W p l e R s mid args below meth c H' locs' cells' slots' QF (F0 mid (pc + len) LS' (st'.map (ax_v sp bs))) :=
    fun ls' st' n' sl' es' H' locs' cells' slots' LS' hk h1 h2 h3 => hk m hm hchk p e R s mid args below meth c n0 sl0 QF hC hE H' locs' cells' slots' LS' h1 h2 h3
  have nx0 : ∀ st', ax_S l sp bs tA D X L xs d nb sb M rest (pc + len) ls st' n sl es Q → W p l e R s mid args below meth c H locs cells slots QF (F0 mid (pc + len) LS (st'.map (ax_v sp bs))) := fun st' hk => nx _ _ _ _ _ _ _ _ _ _ hk hSx hll hLr
  have h1 : 1 = len := hln.resolve_left (show ¬ (1 = 0) by decide)
  subst h1
  cases henc
  dsimp only [ax_I] at hF
  split at hF
  · exact lv_pop hx hb hdec (by rw [ax_v_cat]; exact hF.1) (nx0 _ hF.2)
  · exact hF.elim
set_option maxHeartbeats 1000000 in
theorem ax_st_dup2 : ax_St l sp bs tA D X L xs (.dup2) := by
  intro d nb sb M i len rest pc ls st n sl es Q m hm hdec hln henc hchk hF p e R s mid args below meth c n0 sl0 QF hC hE H locs cells slots LS hSx hll hLr
  obtain ⟨hx, hb, hml, hret, hlk, hini, hown0, hts, hK, hfr, hlo, hnb, hsb, hsz, hscr⟩ := id hC
  have hown : s.vm.findClass (ax_nm (M / 128)) = some mid.cls := by rw [← ax_m_cls hm]; exact hown0
  have nx : ∀ ls' st' n' sl' es' H' locs' cells' slots' LS', ax_S l sp bs tA D X L xs d nb sb M rest (pc + len) ls' st' n' sl' es' Q → ax_Sx sp bs tA D L xs nb sb n0 sl0 s n' sl' es' H' locs' cells' slots' → ls'.length = m.2.2.1 → ax_lr sp bs LS' ls' → W p l e R s mid args below meth c H' locs' cells' slots' QF (F0 mid (pc + len) LS' (st'.map (ax_v sp bs))) :=
    fun ls' st' n' sl' es' H' locs' cells' slots' LS' hk h1 h2 h3 => hk m hm hchk p e R s mid args below meth c n0 sl0 QF hC hE H' locs' cells' slots' LS' h1 h2 h3
  have nx0 : ∀ st', ax_S l sp bs tA D X L xs d nb sb M rest (pc + len) ls st' n sl es Q → W p l e R s mid args below meth c H locs cells slots QF (F0 mid (pc + len) LS (st'.map (ax_v sp bs))) := fun st' hk => nx _ _ _ _ _ _ _ _ _ _ hk hSx hll hLr
  have h1 : 1 = len := hln.resolve_left (show ¬ (1 = 0) by decide)
  subst h1
  cases henc
  dsimp only [ax_I] at hF
  split at hF
  · exact lv_dup2_11 hx hb hdec (by rw [ax_v_cat]; exact hF.1) (by rw [ax_v_cat]; exact hF.2.1) (nx0 _ hF.2.2)
  · exact hF.elim
set_option maxHeartbeats 1000000 in
theorem ax_st_iconst (v : Int) : ax_St l sp bs tA D X L xs (.iconst v) := by
  intro d nb sb M i len rest pc ls st n sl es Q m hm hdec hln henc hchk hF p e R s mid args below meth c n0 sl0 QF hC hE H locs cells slots LS hSx hll hLr
  obtain ⟨hx, hb, hml, hret, hlk, hini, hown0, hts, hK, hfr, hlo, hnb, hsb, hsz, hscr⟩ := id hC
  have hown : s.vm.findClass (ax_nm (M / 128)) = some mid.cls := by rw [← ax_m_cls hm]; exact hown0
  have nx : ∀ ls' st' n' sl' es' H' locs' cells' slots' LS', ax_S l sp bs tA D X L xs d nb sb M rest (pc + len) ls' st' n' sl' es' Q → ax_Sx sp bs tA D L xs nb sb n0 sl0 s n' sl' es' H' locs' cells' slots' → ls'.length = m.2.2.1 → ax_lr sp bs LS' ls' → W p l e R s mid args below meth c H' locs' cells' slots' QF (F0 mid (pc + len) LS' (st'.map (ax_v sp bs))) :=
    fun ls' st' n' sl' es' H' locs' cells' slots' LS' hk h1 h2 h3 => hk m hm hchk p e R s mid args below meth c n0 sl0 QF hC hE H' locs' cells' slots' LS' h1 h2 h3
  have nx0 : ∀ st', ax_S l sp bs tA D X L xs d nb sb M rest (pc + len) ls st' n sl es Q → W p l e R s mid args below meth c H locs cells slots QF (F0 mid (pc + len) LS (st'.map (ax_v sp bs))) := fun st' hk => nx _ _ _ _ _ _ _ _ _ _ hk hSx hll hLr
  have h1 : 1 = len := hln.resolve_left (show ¬ (1 = 0) by decide)
  subst h1
  cases henc
  exact lv_iconst hx hb hdec rfl (nx0 _ hF)
set_option maxHeartbeats 1000000 in
theorem ax_st_bipush (v : Int) : ax_St l sp bs tA D X L xs (.bipush v) := by
  intro d nb sb M i len rest pc ls st n sl es Q m hm hdec hln henc hchk hF p e R s mid args below meth c n0 sl0 QF hC hE H locs cells slots LS hSx hll hLr
  obtain ⟨hx, hb, hml, hret, hlk, hini, hown0, hts, hK, hfr, hlo, hnb, hsb, hsz, hscr⟩ := id hC
  have hown : s.vm.findClass (ax_nm (M / 128)) = some mid.cls := by rw [← ax_m_cls hm]; exact hown0
  have nx : ∀ ls' st' n' sl' es' H' locs' cells' slots' LS', ax_S l sp bs tA D X L xs d nb sb M rest (pc + len) ls' st' n' sl' es' Q → ax_Sx sp bs tA D L xs nb sb n0 sl0 s n' sl' es' H' locs' cells' slots' → ls'.length = m.2.2.1 → ax_lr sp bs LS' ls' → W p l e R s mid args below meth c H' locs' cells' slots' QF (F0 mid (pc + len) LS' (st'.map (ax_v sp bs))) :=
    fun ls' st' n' sl' es' H' locs' cells' slots' LS' hk h1 h2 h3 => hk m hm hchk p e R s mid args below meth c n0 sl0 QF hC hE H' locs' cells' slots' LS' h1 h2 h3
  have nx0 : ∀ st', ax_S l sp bs tA D X L xs d nb sb M rest (pc + len) ls st' n sl es Q → W p l e R s mid args below meth c H locs cells slots QF (F0 mid (pc + len) LS (st'.map (ax_v sp bs))) := fun st' hk => nx _ _ _ _ _ _ _ _ _ _ hk hSx hll hLr
  have h1 : 2 = len := hln.resolve_left (show ¬ (2 = 0) by decide)
  subst h1
  cases henc
  exact lv_bipush hx hb hdec (ax_i8_eq v) (nx0 _ hF)
set_option maxHeartbeats 1000000 in
theorem ax_st_sipush (v : Int) : ax_St l sp bs tA D X L xs (.sipush v) := by
  intro d nb sb M i len rest pc ls st n sl es Q m hm hdec hln henc hchk hF p e R s mid args below meth c n0 sl0 QF hC hE H locs cells slots LS hSx hll hLr
  obtain ⟨hx, hb, hml, hret, hlk, hini, hown0, hts, hK, hfr, hlo, hnb, hsb, hsz, hscr⟩ := id hC
  have hown : s.vm.findClass (ax_nm (M / 128)) = some mid.cls := by rw [← ax_m_cls hm]; exact hown0
  have nx : ∀ ls' st' n' sl' es' H' locs' cells' slots' LS', ax_S l sp bs tA D X L xs d nb sb M rest (pc + len) ls' st' n' sl' es' Q → ax_Sx sp bs tA D L xs nb sb n0 sl0 s n' sl' es' H' locs' cells' slots' → ls'.length = m.2.2.1 → ax_lr sp bs LS' ls' → W p l e R s mid args below meth c H' locs' cells' slots' QF (F0 mid (pc + len) LS' (st'.map (ax_v sp bs))) :=
    fun ls' st' n' sl' es' H' locs' cells' slots' LS' hk h1 h2 h3 => hk m hm hchk p e R s mid args below meth c n0 sl0 QF hC hE H' locs' cells' slots' LS' h1 h2 h3
  have nx0 : ∀ st', ax_S l sp bs tA D X L xs d nb sb M rest (pc + len) ls st' n sl es Q → W p l e R s mid args below meth c H locs cells slots QF (F0 mid (pc + len) LS (st'.map (ax_v sp bs))) := fun st' hk => nx _ _ _ _ _ _ _ _ _ _ hk hSx hll hLr
  have h1 : 3 = len := hln.resolve_left (show ¬ (3 = 0) by decide)
  subst h1
  cases henc
  exact lv_sipush hx hb hdec (ax_i16_eq v) (nx0 _ hF)
set_option maxHeartbeats 1000000 in
theorem ax_st_lconst (v : Fin 2) : ax_St l sp bs tA D X L xs (.lconst v) := by
  intro d nb sb M i len rest pc ls st n sl es Q m hm hdec hln henc hchk hF p e R s mid args below meth c n0 sl0 QF hC hE H locs cells slots LS hSx hll hLr
  obtain ⟨hx, hb, hml, hret, hlk, hini, hown0, hts, hK, hfr, hlo, hnb, hsb, hsz, hscr⟩ := id hC
  have hown : s.vm.findClass (ax_nm (M / 128)) = some mid.cls := by rw [← ax_m_cls hm]; exact hown0
  have nx : ∀ ls' st' n' sl' es' H' locs' cells' slots' LS', ax_S l sp bs tA D X L xs d nb sb M rest (pc + len) ls' st' n' sl' es' Q → ax_Sx sp bs tA D L xs nb sb n0 sl0 s n' sl' es' H' locs' cells' slots' → ls'.length = m.2.2.1 → ax_lr sp bs LS' ls' → W p l e R s mid args below meth c H' locs' cells' slots' QF (F0 mid (pc + len) LS' (st'.map (ax_v sp bs))) :=
    fun ls' st' n' sl' es' H' locs' cells' slots' LS' hk h1 h2 h3 => hk m hm hchk p e R s mid args below meth c n0 sl0 QF hC hE H' locs' cells' slots' LS' h1 h2 h3
  have nx0 : ∀ st', ax_S l sp bs tA D X L xs d nb sb M rest (pc + len) ls st' n sl es Q → W p l e R s mid args below meth c H locs cells slots QF (F0 mid (pc + len) LS (st'.map (ax_v sp bs))) := fun st' hk => nx _ _ _ _ _ _ _ _ _ _ hk hSx hll hLr
  have h1 : 1 = len := hln.resolve_left (show ¬ (1 = 0) by decide)
  subst h1
  cases henc
  exact lv_lconst hx hb hdec (ax_lconst_eq v) (nx0 _ hF)
set_option maxHeartbeats 1000000 in
theorem ax_st_ldc2_w (k : Nat) : ax_St l sp bs tA D X L xs (.ldc2_w k) := by
  intro d nb sb M i len rest pc ls st n sl es Q m hm hdec hln henc hchk hF p e R s mid args below meth c n0 sl0 QF hC hE H locs cells slots LS hSx hll hLr
  obtain ⟨hx, hb, hml, hret, hlk, hini, hown0, hts, hK, hfr, hlo, hnb, hsb, hsz, hscr⟩ := id hC
  have hown : s.vm.findClass (ax_nm (M / 128)) = some mid.cls := by rw [← ax_m_cls hm]; exact hown0
  have nx : ∀ ls' st' n' sl' es' H' locs' cells' slots' LS', ax_S l sp bs tA D X L xs d nb sb M rest (pc + len) ls' st' n' sl' es' Q → ax_Sx sp bs tA D L xs nb sb n0 sl0 s n' sl' es' H' locs' cells' slots' → ls'.length = m.2.2.1 → ax_lr sp bs LS' ls' → W p l e R s mid args below meth c H' locs' cells' slots' QF (F0 mid (pc + len) LS' (st'.map (ax_v sp bs))) :=
    fun ls' st' n' sl' es' H' locs' cells' slots' LS' hk h1 h2 h3 => hk m hm hchk p e R s mid args below meth c n0 sl0 QF hC hE H' locs' cells' slots' LS' h1 h2 h3
  have nx0 : ∀ st', ax_S l sp bs tA D X L xs d nb sb M rest (pc + len) ls st' n sl es Q → W p l e R s mid args below meth c H locs cells slots QF (F0 mid (pc + len) LS (st'.map (ax_v sp bs))) := fun st' hk => nx _ _ _ _ _ _ _ _ _ _ hk hSx hll hLr
  have h1 : 3 = len := hln.resolve_left (show ¬ (3 = 0) by decide)
  subst h1
  dsimp only [ax_enc] at henc
  split at henc
  · next v hlk =>
    cases henc
    exact lv_ldc2 hx hb hown (hts _ (ax_Tb_in (ax_res_word hm hlk) rfl)) hdec (nx0 _ hF)
  · cases henc
set_option maxHeartbeats 1000000 in
theorem ax_st_ldc_w (k : Nat) : ax_St l sp bs tA D X L xs (.ldc_w k) := by
  intro d nb sb M i len rest pc ls st n sl es Q m hm hdec hln henc hchk hF p e R s mid args below meth c n0 sl0 QF hC hE H locs cells slots LS hSx hll hLr
  obtain ⟨hx, hb, hml, hret, hlk, hini, hown0, hts, hK, hfr, hlo, hnb, hsb, hsz, hscr⟩ := id hC
  have hown : s.vm.findClass (ax_nm (M / 128)) = some mid.cls := by rw [← ax_m_cls hm]; exact hown0
  have nx : ∀ ls' st' n' sl' es' H' locs' cells' slots' LS', ax_S l sp bs tA D X L xs d nb sb M rest (pc + len) ls' st' n' sl' es' Q → ax_Sx sp bs tA D L xs nb sb n0 sl0 s n' sl' es' H' locs' cells' slots' → ls'.length = m.2.2.1 → ax_lr sp bs LS' ls' → W p l e R s mid args below meth c H' locs' cells' slots' QF (F0 mid (pc + len) LS' (st'.map (ax_v sp bs))) :=
    fun ls' st' n' sl' es' H' locs' cells' slots' LS' hk h1 h2 h3 => hk m hm hchk p e R s mid args below meth c n0 sl0 QF hC hE H' locs' cells' slots' LS' h1 h2 h3
  have nx0 : ∀ st', ax_S l sp bs tA D X L xs d nb sb M rest (pc + len) ls st' n sl es Q → W p l e R s mid args below meth c H locs cells slots QF (F0 mid (pc + len) LS (st'.map (ax_v sp bs))) := fun st' hk => nx _ _ _ _ _ _ _ _ _ _ hk hSx hll hLr
  have h1 : 3 = len := hln.resolve_left (show ¬ (3 = 0) by decide)
  subst h1
  dsimp only [ax_enc] at henc
  split at henc
  · next v hlk =>
    cases henc
    exact lv_ldcw hx hb hown (hts _ (ax_Tb_in (ax_res_word hm hlk) rfl)) hdec (nx0 _ hF)
  · cases henc
set_option maxHeartbeats 1000000 in
theorem ax_st_ldc (hStr : ∀ (o k : Nat) (v : Int) (U : State), (k, 7, v) ∈ ax_res o → X U → vk_R (ax_nm o) k ax_words (sp (UInt32.ofNat v.toNat).toNat) U) (k : Nat) : ax_St l sp bs tA D X L xs (.ldc k) := by
  intro d nb sb M i len rest pc ls st n sl es Q m hm hdec hln henc hchk hF p e R s mid args below meth c n0 sl0 QF hC hE H locs cells slots LS hSx hll hLr
  obtain ⟨hx, hb, hml, hret, hlk, hini, hown0, hts, hK, hfr, hlo, hnb, hsb, hsz, hscr⟩ := id hC
  have hown : s.vm.findClass (ax_nm (M / 128)) = some mid.cls := by rw [← ax_m_cls hm]; exact hown0
  have nx : ∀ ls' st' n' sl' es' H' locs' cells' slots' LS', ax_S l sp bs tA D X L xs d nb sb M rest (pc + len) ls' st' n' sl' es' Q → ax_Sx sp bs tA D L xs nb sb n0 sl0 s n' sl' es' H' locs' cells' slots' → ls'.length = m.2.2.1 → ax_lr sp bs LS' ls' → W p l e R s mid args below meth c H' locs' cells' slots' QF (F0 mid (pc + len) LS' (st'.map (ax_v sp bs))) :=
    fun ls' st' n' sl' es' H' locs' cells' slots' LS' hk h1 h2 h3 => hk m hm hchk p e R s mid args below meth c n0 sl0 QF hC hE H' locs' cells' slots' LS' h1 h2 h3
  have nx0 : ∀ st', ax_S l sp bs tA D X L xs d nb sb M rest (pc + len) ls st' n sl es Q → W p l e R s mid args below meth c H locs cells slots QF (F0 mid (pc + len) LS (st'.map (ax_v sp bs))) := fun st' hk => nx _ _ _ _ _ _ _ _ _ _ hk hSx hll hLr
  have h1 : 2 = len := hln.resolve_left (show ¬ (2 = 0) by decide)
  subst h1
  dsimp only [ax_enc] at henc
  split at henc
  · next v hlk =>
    cases henc
    exact lv_ldc hx hb hown (hts _ (ax_Tb_in (ax_res_word hm hlk) rfl)) hdec (nx0 _ hF)
  · next v hlk =>
    cases henc
    exact va_ldcS hx hb hown (hStr (M / 128) k v s (ax_lookup_mem _ _ _ hlk) hK.2.2) hdec (nx0 _ hF)
  · cases henc
set_option maxHeartbeats 1000000 in
theorem ax_st_iload (k : Nat) : ax_St l sp bs tA D X L xs (.iload k) := by
  intro d nb sb M i len rest pc ls st n sl es Q m hm hdec hln henc hchk hF p e R s mid args below meth c n0 sl0 QF hC hE H locs cells slots LS hSx hll hLr
  obtain ⟨hx, hb, hml, hret, hlk, hini, hown0, hts, hK, hfr, hlo, hnb, hsb, hsz, hscr⟩ := id hC
  have hown : s.vm.findClass (ax_nm (M / 128)) = some mid.cls := by rw [← ax_m_cls hm]; exact hown0
  have nx : ∀ ls' st' n' sl' es' H' locs' cells' slots' LS', ax_S l sp bs tA D X L xs d nb sb M rest (pc + len) ls' st' n' sl' es' Q → ax_Sx sp bs tA D L xs nb sb n0 sl0 s n' sl' es' H' locs' cells' slots' → ls'.length = m.2.2.1 → ax_lr sp bs LS' ls' → W p l e R s mid args below meth c H' locs' cells' slots' QF (F0 mid (pc + len) LS' (st'.map (ax_v sp bs))) :=
    fun ls' st' n' sl' es' H' locs' cells' slots' LS' hk h1 h2 h3 => hk m hm hchk p e R s mid args below meth c n0 sl0 QF hC hE H' locs' cells' slots' LS' h1 h2 h3
  have nx0 : ∀ st', ax_S l sp bs tA D X L xs d nb sb M rest (pc + len) ls st' n sl es Q → W p l e R s mid args below meth c H locs cells slots QF (F0 mid (pc + len) LS (st'.map (ax_v sp bs))) := fun st' hk => nx _ _ _ _ _ _ _ _ _ _ hk hSx hll hLr
  have h1 : 2 = len := hln.resolve_left (show ¬ (2 = 0) by decide)
  subst h1
  cases henc
  dsimp only [ax_I] at hF
  split at hF
  · next x hk => exact lv_iload hx hb hdec (ax_lr_at hLr hk) (nx0 _ hF)
  · exact hF.elim
set_option maxHeartbeats 1000000 in
theorem ax_st_istore (k : Nat) : ax_St l sp bs tA D X L xs (.istore k) := by
  intro d nb sb M i len rest pc ls st n sl es Q m hm hdec hln henc hchk hF p e R s mid args below meth c n0 sl0 QF hC hE H locs cells slots LS hSx hll hLr
  obtain ⟨hx, hb, hml, hret, hlk, hini, hown0, hts, hK, hfr, hlo, hnb, hsb, hsz, hscr⟩ := id hC
  have hown : s.vm.findClass (ax_nm (M / 128)) = some mid.cls := by rw [← ax_m_cls hm]; exact hown0
  have nx : ∀ ls' st' n' sl' es' H' locs' cells' slots' LS', ax_S l sp bs tA D X L xs d nb sb M rest (pc + len) ls' st' n' sl' es' Q → ax_Sx sp bs tA D L xs nb sb n0 sl0 s n' sl' es' H' locs' cells' slots' → ls'.length = m.2.2.1 → ax_lr sp bs LS' ls' → W p l e R s mid args below meth c H' locs' cells' slots' QF (F0 mid (pc + len) LS' (st'.map (ax_v sp bs))) :=
    fun ls' st' n' sl' es' H' locs' cells' slots' LS' hk h1 h2 h3 => hk m hm hchk p e R s mid args below meth c n0 sl0 QF hC hE H' locs' cells' slots' LS' h1 h2 h3
  have nx0 : ∀ st', ax_S l sp bs tA D X L xs d nb sb M rest (pc + len) ls st' n sl es Q → W p l e R s mid args below meth c H locs cells slots QF (F0 mid (pc + len) LS (st'.map (ax_v sp bs))) := fun st' hk => nx _ _ _ _ _ _ _ _ _ _ hk hSx hll hLr
  have h1 : 2 = len := hln.resolve_left (show ¬ (2 = 0) by decide)
  subst h1
  cases henc
  dsimp only [ax_I] at hF
  split at hF
  · refine lv_istore hx hb hdec hLr.1 hF.1 rfl (fun LS' hl' => ?_)
    exact nx _ _ _ _ _ _ _ _ _ _ hF.2 hSx (by rw [ax_st1_len]; exact hll) (ax_lr_st1 hLr (fun b h => by cases h) hl')
  · exact hF.elim
set_option maxHeartbeats 1000000 in
theorem ax_st_iload_n (k : Fin 4) : ax_St l sp bs tA D X L xs (.iload_n k) := by
  intro d nb sb M i len rest pc ls st n sl es Q m hm hdec hln henc hchk hF p e R s mid args below meth c n0 sl0 QF hC hE H locs cells slots LS hSx hll hLr
  obtain ⟨hx, hb, hml, hret, hlk, hini, hown0, hts, hK, hfr, hlo, hnb, hsb, hsz, hscr⟩ := id hC
  have hown : s.vm.findClass (ax_nm (M / 128)) = some mid.cls := by rw [← ax_m_cls hm]; exact hown0
  have nx : ∀ ls' st' n' sl' es' H' locs' cells' slots' LS', ax_S l sp bs tA D X L xs d nb sb M rest (pc + len) ls' st' n' sl' es' Q → ax_Sx sp bs tA D L xs nb sb n0 sl0 s n' sl' es' H' locs' cells' slots' → ls'.length = m.2.2.1 → ax_lr sp bs LS' ls' → W p l e R s mid args below meth c H' locs' cells' slots' QF (F0 mid (pc + len) LS' (st'.map (ax_v sp bs))) :=
    fun ls' st' n' sl' es' H' locs' cells' slots' LS' hk h1 h2 h3 => hk m hm hchk p e R s mid args below meth c n0 sl0 QF hC hE H' locs' cells' slots' LS' h1 h2 h3
  have nx0 : ∀ st', ax_S l sp bs tA D X L xs d nb sb M rest (pc + len) ls st' n sl es Q → W p l e R s mid args below meth c H locs cells slots QF (F0 mid (pc + len) LS (st'.map (ax_v sp bs))) := fun st' hk => nx _ _ _ _ _ _ _ _ _ _ hk hSx hll hLr
  have h1 : 1 = len := hln.resolve_left (show ¬ (1 = 0) by decide)
  subst h1
  cases henc
  dsimp only [ax_I] at hF
  split at hF
  · next x hk => exact lv_iload_n hx hb hdec rfl (ax_lr_at hLr hk) (nx0 _ hF)
  · exact hF.elim
set_option maxHeartbeats 1000000 in
theorem ax_st_istore_n (k : Fin 4) : ax_St l sp bs tA D X L xs (.istore_n k) := by
  intro d nb sb M i len rest pc ls st n sl es Q m hm hdec hln henc hchk hF p e R s mid args below meth c n0 sl0 QF hC hE H locs cells slots LS hSx hll hLr
  obtain ⟨hx, hb, hml, hret, hlk, hini, hown0, hts, hK, hfr, hlo, hnb, hsb, hsz, hscr⟩ := id hC
  have hown : s.vm.findClass (ax_nm (M / 128)) = some mid.cls := by rw [← ax_m_cls hm]; exact hown0
  have nx : ∀ ls' st' n' sl' es' H' locs' cells' slots' LS', ax_S l sp bs tA D X L xs d nb sb M rest (pc + len) ls' st' n' sl' es' Q → ax_Sx sp bs tA D L xs nb sb n0 sl0 s n' sl' es' H' locs' cells' slots' → ls'.length = m.2.2.1 → ax_lr sp bs LS' ls' → W p l e R s mid args below meth c H' locs' cells' slots' QF (F0 mid (pc + len) LS' (st'.map (ax_v sp bs))) :=
    fun ls' st' n' sl' es' H' locs' cells' slots' LS' hk h1 h2 h3 => hk m hm hchk p e R s mid args below meth c n0 sl0 QF hC hE H' locs' cells' slots' LS' h1 h2 h3
  have nx0 : ∀ st', ax_S l sp bs tA D X L xs d nb sb M rest (pc + len) ls st' n sl es Q → W p l e R s mid args below meth c H locs cells slots QF (F0 mid (pc + len) LS (st'.map (ax_v sp bs))) := fun st' hk => nx _ _ _ _ _ _ _ _ _ _ hk hSx hll hLr
  have h1 : 1 = len := hln.resolve_left (show ¬ (1 = 0) by decide)
  subst h1
  cases henc
  dsimp only [ax_I] at hF
  split at hF
  · refine lv_istore_n hx hb hdec rfl hLr.1 hF.1 rfl (fun LS' hl' => ?_)
    exact nx _ _ _ _ _ _ _ _ _ _ hF.2 hSx (by rw [ax_st1_len]; exact hll) (ax_lr_st1 hLr (fun b h => by cases h) hl')
  · exact hF.elim
set_option maxHeartbeats 1000000 in
theorem ax_st_lload (k : Nat) : ax_St l sp bs tA D X L xs (.lload k) := by
  intro d nb sb M i len rest pc ls st n sl es Q m hm hdec hln henc hchk hF p e R s mid args below meth c n0 sl0 QF hC hE H locs cells slots LS hSx hll hLr
  obtain ⟨hx, hb, hml, hret, hlk, hini, hown0, hts, hK, hfr, hlo, hnb, hsb, hsz, hscr⟩ := id hC
  have hown : s.vm.findClass (ax_nm (M / 128)) = some mid.cls := by rw [← ax_m_cls hm]; exact hown0
  have nx : ∀ ls' st' n' sl' es' H' locs' cells' slots' LS', ax_S l sp bs tA D X L xs d nb sb M rest (pc + len) ls' st' n' sl' es' Q → ax_Sx sp bs tA D L xs nb sb n0 sl0 s n' sl' es' H' locs' cells' slots' → ls'.length = m.2.2.1 → ax_lr sp bs LS' ls' → W p l e R s mid args below meth c H' locs' cells' slots' QF (F0 mid (pc + len) LS' (st'.map (ax_v sp bs))) :=
    fun ls' st' n' sl' es' H' locs' cells' slots' LS' hk h1 h2 h3 => hk m hm hchk p e R s mid args below meth c n0 sl0 QF hC hE H' locs' cells' slots' LS' h1 h2 h3
  have nx0 : ∀ st', ax_S l sp bs tA D X L xs d nb sb M rest (pc + len) ls st' n sl es Q → W p l e R s mid args below meth c H locs cells slots QF (F0 mid (pc + len) LS (st'.map (ax_v sp bs))) := fun st' hk => nx _ _ _ _ _ _ _ _ _ _ hk hSx hll hLr
  have h1 : 2 = len := hln.resolve_left (show ¬ (2 = 0) by decide)
  subst h1
  cases henc
  dsimp only [ax_I] at hF
  split at hF
  · next x hk => exact lv_lload hx hb hdec (ax_lr_at hLr hk) (nx0 _ hF)
  · exact hF.elim
set_option maxHeartbeats 1000000 in
theorem ax_st_lstore (k : Nat) : ax_St l sp bs tA D X L xs (.lstore k) := by
  intro d nb sb M i len rest pc ls st n sl es Q m hm hdec hln henc hchk hF p e R s mid args below meth c n0 sl0 QF hC hE H locs cells slots LS hSx hll hLr
  obtain ⟨hx, hb, hml, hret, hlk, hini, hown0, hts, hK, hfr, hlo, hnb, hsb, hsz, hscr⟩ := id hC
  have hown : s.vm.findClass (ax_nm (M / 128)) = some mid.cls := by rw [← ax_m_cls hm]; exact hown0
  have nx : ∀ ls' st' n' sl' es' H' locs' cells' slots' LS', ax_S l sp bs tA D X L xs d nb sb M rest (pc + len) ls' st' n' sl' es' Q → ax_Sx sp bs tA D L xs nb sb n0 sl0 s n' sl' es' H' locs' cells' slots' → ls'.length = m.2.2.1 → ax_lr sp bs LS' ls' → W p l e R s mid args below meth c H' locs' cells' slots' QF (F0 mid (pc + len) LS' (st'.map (ax_v sp bs))) :=
    fun ls' st' n' sl' es' H' locs' cells' slots' LS' hk h1 h2 h3 => hk m hm hchk p e R s mid args below meth c n0 sl0 QF hC hE H' locs' cells' slots' LS' h1 h2 h3
  have nx0 : ∀ st', ax_S l sp bs tA D X L xs d nb sb M rest (pc + len) ls st' n sl es Q → W p l e R s mid args below meth c H locs cells slots QF (F0 mid (pc + len) LS (st'.map (ax_v sp bs))) := fun st' hk => nx _ _ _ _ _ _ _ _ _ _ hk hSx hll hLr
  have h1 : 2 = len := hln.resolve_left (show ¬ (2 = 0) by decide)
  subst h1
  cases henc
  dsimp only [ax_I] at hF
  split at hF
  · refine lv_lstore hx hb hdec hLr.1 hF.1 rfl (fun LS' hl' => ?_)
    exact nx _ _ _ _ _ _ _ _ _ _ hF.2 hSx (by rw [ax_st2_len]; exact hll) (ax_lr_st2 hLr (fun b h => by cases h) hl')
  · exact hF.elim
set_option maxHeartbeats 1000000 in
theorem ax_st_lload_n (k : Fin 4) : ax_St l sp bs tA D X L xs (.lload_n k) := by
  intro d nb sb M i len rest pc ls st n sl es Q m hm hdec hln henc hchk hF p e R s mid args below meth c n0 sl0 QF hC hE H locs cells slots LS hSx hll hLr
  obtain ⟨hx, hb, hml, hret, hlk, hini, hown0, hts, hK, hfr, hlo, hnb, hsb, hsz, hscr⟩ := id hC
  have hown : s.vm.findClass (ax_nm (M / 128)) = some mid.cls := by rw [← ax_m_cls hm]; exact hown0
  have nx : ∀ ls' st' n' sl' es' H' locs' cells' slots' LS', ax_S l sp bs tA D X L xs d nb sb M rest (pc + len) ls' st' n' sl' es' Q → ax_Sx sp bs tA D L xs nb sb n0 sl0 s n' sl' es' H' locs' cells' slots' → ls'.length = m.2.2.1 → ax_lr sp bs LS' ls' → W p l e R s mid args below meth c H' locs' cells' slots' QF (F0 mid (pc + len) LS' (st'.map (ax_v sp bs))) :=
    fun ls' st' n' sl' es' H' locs' cells' slots' LS' hk h1 h2 h3 => hk m hm hchk p e R s mid args below meth c n0 sl0 QF hC hE H' locs' cells' slots' LS' h1 h2 h3
  have nx0 : ∀ st', ax_S l sp bs tA D X L xs d nb sb M rest (pc + len) ls st' n sl es Q → W p l e R s mid args below meth c H locs cells slots QF (F0 mid (pc + len) LS (st'.map (ax_v sp bs))) := fun st' hk => nx _ _ _ _ _ _ _ _ _ _ hk hSx hll hLr
  have h1 : 1 = len := hln.resolve_left (show ¬ (1 = 0) by decide)
  subst h1
  cases henc
  dsimp only [ax_I] at hF
  split at hF
  · next x hk => exact lv_lload_n hx hb hdec rfl (ax_lr_at hLr hk) (nx0 _ hF)
  · exact hF.elim
set_option maxHeartbeats 1000000 in
theorem ax_st_lstore_n (k : Fin 4) : ax_St l sp bs tA D X L xs (.lstore_n k) := by
  intro d nb sb M i len rest pc ls st n sl es Q m hm hdec hln henc hchk hF p e R s mid args below meth c n0 sl0 QF hC hE H locs cells slots LS hSx hll hLr
  obtain ⟨hx, hb, hml, hret, hlk, hini, hown0, hts, hK, hfr, hlo, hnb, hsb, hsz, hscr⟩ := id hC
  have hown : s.vm.findClass (ax_nm (M / 128)) = some mid.cls := by rw [← ax_m_cls hm]; exact hown0
  have nx : ∀ ls' st' n' sl' es' H' locs' cells' slots' LS', ax_S l sp bs tA D X L xs d nb sb M rest (pc + len) ls' st' n' sl' es' Q → ax_Sx sp bs tA D L xs nb sb n0 sl0 s n' sl' es' H' locs' cells' slots' → ls'.length = m.2.2.1 → ax_lr sp bs LS' ls' → W p l e R s mid args below meth c H' locs' cells' slots' QF (F0 mid (pc + len) LS' (st'.map (ax_v sp bs))) :=
    fun ls' st' n' sl' es' H' locs' cells' slots' LS' hk h1 h2 h3 => hk m hm hchk p e R s mid args below meth c n0 sl0 QF hC hE H' locs' cells' slots' LS' h1 h2 h3
  have nx0 : ∀ st', ax_S l sp bs tA D X L xs d nb sb M rest (pc + len) ls st' n sl es Q → W p l e R s mid args below meth c H locs cells slots QF (F0 mid (pc + len) LS (st'.map (ax_v sp bs))) := fun st' hk => nx _ _ _ _ _ _ _ _ _ _ hk hSx hll hLr
  have h1 : 1 = len := hln.resolve_left (show ¬ (1 = 0) by decide)
  subst h1
  cases henc
  dsimp only [ax_I] at hF
  split at hF
  · refine lv_lstore_n hx hb hdec rfl hLr.1 hF.1 rfl (fun LS' hl' => ?_)
    exact nx _ _ _ _ _ _ _ _ _ _ hF.2 hSx (by rw [ax_st2_len]; exact hll) (ax_lr_st2 hLr (fun b h => by cases h) hl')
  · exact hF.elim
set_option maxHeartbeats 1000000 in
theorem ax_st_aload (k : Nat) : ax_St l sp bs tA D X L xs (.aload k) := by
  intro d nb sb M i len rest pc ls st n sl es Q m hm hdec hln henc hchk hF p e R s mid args below meth c n0 sl0 QF hC hE H locs cells slots LS hSx hll hLr
  obtain ⟨hx, hb, hml, hret, hlk, hini, hown0, hts, hK, hfr, hlo, hnb, hsb, hsz, hscr⟩ := id hC
  have hown : s.vm.findClass (ax_nm (M / 128)) = some mid.cls := by rw [← ax_m_cls hm]; exact hown0
  have nx : ∀ ls' st' n' sl' es' H' locs' cells' slots' LS', ax_S l sp bs tA D X L xs d nb sb M rest (pc + len) ls' st' n' sl' es' Q → ax_Sx sp bs tA D L xs nb sb n0 sl0 s n' sl' es' H' locs' cells' slots' → ls'.length = m.2.2.1 → ax_lr sp bs LS' ls' → W p l e R s mid args below meth c H' locs' cells' slots' QF (F0 mid (pc + len) LS' (st'.map (ax_v sp bs))) :=
    fun ls' st' n' sl' es' H' locs' cells' slots' LS' hk h1 h2 h3 => hk m hm hchk p e R s mid args below meth c n0 sl0 QF hC hE H' locs' cells' slots' LS' h1 h2 h3
  have nx0 : ∀ st', ax_S l sp bs tA D X L xs d nb sb M rest (pc + len) ls st' n sl es Q → W p l e R s mid args below meth c H locs cells slots QF (F0 mid (pc + len) LS (st'.map (ax_v sp bs))) := fun st' hk => nx _ _ _ _ _ _ _ _ _ _ hk hSx hll hLr
  have h1 : 2 = len := hln.resolve_left (show ¬ (2 = 0) by decide)
  subst h1
  cases henc
  dsimp only [ax_I] at hF
  split at hF
  · next x hk => exact lv_aload hx hb hdec (ax_lr_at hLr hk) (nx0 _ hF)
  · next x hk => exact lv_aload hx hb hdec (ax_lr_at hLr hk) (nx0 _ hF)
  · exact hF.elim
set_option maxHeartbeats 1000000 in
theorem ax_st_astore (k : Nat) : ax_St l sp bs tA D X L xs (.astore k) := by
  intro d nb sb M i len rest pc ls st n sl es Q m hm hdec hln henc hchk hF p e R s mid args below meth c n0 sl0 QF hC hE H locs cells slots LS hSx hll hLr
  obtain ⟨hx, hb, hml, hret, hlk, hini, hown0, hts, hK, hfr, hlo, hnb, hsb, hsz, hscr⟩ := id hC
  have hown : s.vm.findClass (ax_nm (M / 128)) = some mid.cls := by rw [← ax_m_cls hm]; exact hown0
  have nx : ∀ ls' st' n' sl' es' H' locs' cells' slots' LS', ax_S l sp bs tA D X L xs d nb sb M rest (pc + len) ls' st' n' sl' es' Q → ax_Sx sp bs tA D L xs nb sb n0 sl0 s n' sl' es' H' locs' cells' slots' → ls'.length = m.2.2.1 → ax_lr sp bs LS' ls' → W p l e R s mid args below meth c H' locs' cells' slots' QF (F0 mid (pc + len) LS' (st'.map (ax_v sp bs))) :=
    fun ls' st' n' sl' es' H' locs' cells' slots' LS' hk h1 h2 h3 => hk m hm hchk p e R s mid args below meth c n0 sl0 QF hC hE H' locs' cells' slots' LS' h1 h2 h3
  have nx0 : ∀ st', ax_S l sp bs tA D X L xs d nb sb M rest (pc + len) ls st' n sl es Q → W p l e R s mid args below meth c H locs cells slots QF (F0 mid (pc + len) LS (st'.map (ax_v sp bs))) := fun st' hk => nx _ _ _ _ _ _ _ _ _ _ hk hSx hll hLr
  have h1 : 2 = len := hln.resolve_left (show ¬ (2 = 0) by decide)
  subst h1
  cases henc
  dsimp only [ax_I] at hF
  split at hF
  · refine lv_astore hx hb hdec hLr.1 hF.1 rfl (fun LS' hl' => ?_)
    exact nx _ _ _ _ _ _ _ _ _ _ hF.2 hSx (by rw [ax_st1_len]; exact hll) (ax_lr_st1 hLr (fun b h => by cases h) hl')
  · exact hF.elim
set_option maxHeartbeats 1000000 in
theorem ax_st_aload_n (k : Fin 4) : ax_St l sp bs tA D X L xs (.aload_n k) := by
  intro d nb sb M i len rest pc ls st n sl es Q m hm hdec hln henc hchk hF p e R s mid args below meth c n0 sl0 QF hC hE H locs cells slots LS hSx hll hLr
  obtain ⟨hx, hb, hml, hret, hlk, hini, hown0, hts, hK, hfr, hlo, hnb, hsb, hsz, hscr⟩ := id hC
  have hown : s.vm.findClass (ax_nm (M / 128)) = some mid.cls := by rw [← ax_m_cls hm]; exact hown0
  have nx : ∀ ls' st' n' sl' es' H' locs' cells' slots' LS', ax_S l sp bs tA D X L xs d nb sb M rest (pc + len) ls' st' n' sl' es' Q → ax_Sx sp bs tA D L xs nb sb n0 sl0 s n' sl' es' H' locs' cells' slots' → ls'.length = m.2.2.1 → ax_lr sp bs LS' ls' → W p l e R s mid args below meth c H' locs' cells' slots' QF (F0 mid (pc + len) LS' (st'.map (ax_v sp bs))) :=
    fun ls' st' n' sl' es' H' locs' cells' slots' LS' hk h1 h2 h3 => hk m hm hchk p e R s mid args below meth c n0 sl0 QF hC hE H' locs' cells' slots' LS' h1 h2 h3
  have nx0 : ∀ st', ax_S l sp bs tA D X L xs d nb sb M rest (pc + len) ls st' n sl es Q → W p l e R s mid args below meth c H locs cells slots QF (F0 mid (pc + len) LS (st'.map (ax_v sp bs))) := fun st' hk => nx _ _ _ _ _ _ _ _ _ _ hk hSx hll hLr
  have h1 : 1 = len := hln.resolve_left (show ¬ (1 = 0) by decide)
  subst h1
  cases henc
  dsimp only [ax_I] at hF
  split at hF
  · next x hk => exact lv_aload_n hx hb hdec rfl (ax_lr_at hLr hk) (nx0 _ hF)
  · next x hk => exact lv_aload_n hx hb hdec rfl (ax_lr_at hLr hk) (nx0 _ hF)
  · exact hF.elim
set_option maxHeartbeats 1000000 in
theorem ax_st_astore_n (k : Fin 4) : ax_St l sp bs tA D X L xs (.astore_n k) := by
  intro d nb sb M i len rest pc ls st n sl es Q m hm hdec hln henc hchk hF p e R s mid args below meth c n0 sl0 QF hC hE H locs cells slots LS hSx hll hLr
  obtain ⟨hx, hb, hml, hret, hlk, hini, hown0, hts, hK, hfr, hlo, hnb, hsb, hsz, hscr⟩ := id hC
  have hown : s.vm.findClass (ax_nm (M / 128)) = some mid.cls := by rw [← ax_m_cls hm]; exact hown0
  have nx : ∀ ls' st' n' sl' es' H' locs' cells' slots' LS', ax_S l sp bs tA D X L xs d nb sb M rest (pc + len) ls' st' n' sl' es' Q → ax_Sx sp bs tA D L xs nb sb n0 sl0 s n' sl' es' H' locs' cells' slots' → ls'.length = m.2.2.1 → ax_lr sp bs LS' ls' → W p l e R s mid args below meth c H' locs' cells' slots' QF (F0 mid (pc + len) LS' (st'.map (ax_v sp bs))) :=
    fun ls' st' n' sl' es' H' locs' cells' slots' LS' hk h1 h2 h3 => hk m hm hchk p e R s mid args below meth c n0 sl0 QF hC hE H' locs' cells' slots' LS' h1 h2 h3
  have nx0 : ∀ st', ax_S l sp bs tA D X L xs d nb sb M rest (pc + len) ls st' n sl es Q → W p l e R s mid args below meth c H locs cells slots QF (F0 mid (pc + len) LS (st'.map (ax_v sp bs))) := fun st' hk => nx _ _ _ _ _ _ _ _ _ _ hk hSx hll hLr
  have h1 : 1 = len := hln.resolve_left (show ¬ (1 = 0) by decide)
  subst h1
  cases henc
  dsimp only [ax_I] at hF
  split at hF
  · refine lv_astore_n hx hb hdec rfl hLr.1 hF.1 rfl (fun LS' hl' => ?_)
    exact nx _ _ _ _ _ _ _ _ _ _ hF.2 hSx (by rw [ax_st1_len]; exact hll) (ax_lr_st1 hLr (fun b h => by cases h) hl')
  · exact hF.elim
set_option maxHeartbeats 1000000 in
theorem ax_st_iinc (k : Nat) (v : Int) : ax_St l sp bs tA D X L xs (.iinc k v) := by
  intro d nb sb M i len rest pc ls st n sl es Q m hm hdec hln henc hchk hF p e R s mid args below meth c n0 sl0 QF hC hE H locs cells slots LS hSx hll hLr
  obtain ⟨hx, hb, hml, hret, hlk, hini, hown0, hts, hK, hfr, hlo, hnb, hsb, hsz, hscr⟩ := id hC
  have hown : s.vm.findClass (ax_nm (M / 128)) = some mid.cls := by rw [← ax_m_cls hm]; exact hown0
  have nx : ∀ ls' st' n' sl' es' H' locs' cells' slots' LS', ax_S l sp bs tA D X L xs d nb sb M rest (pc + len) ls' st' n' sl' es' Q → ax_Sx sp bs tA D L xs nb sb n0 sl0 s n' sl' es' H' locs' cells' slots' → ls'.length = m.2.2.1 → ax_lr sp bs LS' ls' → W p l e R s mid args below meth c H' locs' cells' slots' QF (F0 mid (pc + len) LS' (st'.map (ax_v sp bs))) :=
    fun ls' st' n' sl' es' H' locs' cells' slots' LS' hk h1 h2 h3 => hk m hm hchk p e R s mid args below meth c n0 sl0 QF hC hE H' locs' cells' slots' LS' h1 h2 h3
  have nx0 : ∀ st', ax_S l sp bs tA D X L xs d nb sb M rest (pc + len) ls st' n sl es Q → W p l e R s mid args below meth c H locs cells slots QF (F0 mid (pc + len) LS (st'.map (ax_v sp bs))) := fun st' hk => nx _ _ _ _ _ _ _ _ _ _ hk hSx hll hLr
  have h1 : 3 = len := hln.resolve_left (show ¬ (3 = 0) by decide)
  subst h1
  cases henc
  dsimp only [ax_I] at hF
  split at hF
  · next x hk =>
    obtain ⟨j, hj⟩ := List.getElem?_of_mem (List.mem_map.mpr ⟨(k, Value.int x), (ax_as_mem ls 0 k (.int x)).mpr ⟨k, by omega, hk⟩, rfl⟩ : (k, ax_v sp bs (.int x)) ∈ (ax_as 0 ls).map fun q => (q.1, ax_v sp bs q.2))
    refine lv_iinc (k := j) (v := x + Int32.ofInt v) hx hb hdec hLr.1 hj rfl (List.getElem?_eq_some_iff.mp hk).1 rfl (fun LS' hl' => ?_)
    exact nx _ _ _ _ _ _ _ _ _ _ hF hSx (by rw [ax_st1_len]; exact hll) (ax_lr_st1 hLr (fun b h => by cases h) hl')
  · exact hF.elim
set_option maxHeartbeats 1000000 in
theorem ax_st_ifCond (cd : Jvm.ClassFile.Cond) (off : Int) : ax_St l sp bs tA D X L xs (.ifCond cd off) := by
  intro d nb sb M i len rest pc ls st n sl es Q m hm hdec hln henc hchk hF p e R s mid args below meth c n0 sl0 QF hC hE H locs cells slots LS hSx hll hLr
  obtain ⟨hx, hb, hml, hret, hlk, hini, hown0, hts, hK, hfr, hlo, hnb, hsb, hsz, hscr⟩ := id hC
  have hown : s.vm.findClass (ax_nm (M / 128)) = some mid.cls := by rw [← ax_m_cls hm]; exact hown0
  have nx : ∀ ls' st' n' sl' es' H' locs' cells' slots' LS', ax_S l sp bs tA D X L xs d nb sb M rest (pc + len) ls' st' n' sl' es' Q → ax_Sx sp bs tA D L xs nb sb n0 sl0 s n' sl' es' H' locs' cells' slots' → ls'.length = m.2.2.1 → ax_lr sp bs LS' ls' → W p l e R s mid args below meth c H' locs' cells' slots' QF (F0 mid (pc + len) LS' (st'.map (ax_v sp bs))) :=
    fun ls' st' n' sl' es' H' locs' cells' slots' LS' hk h1 h2 h3 => hk m hm hchk p e R s mid args below meth c n0 sl0 QF hC hE H' locs' cells' slots' LS' h1 h2 h3
  have nx0 : ∀ st', ax_S l sp bs tA D X L xs d nb sb M rest (pc + len) ls st' n sl es Q → W p l e R s mid args below meth c H locs cells slots QF (F0 mid (pc + len) LS (st'.map (ax_v sp bs))) := fun st' hk => nx _ _ _ _ _ _ _ _ _ _ hk hSx hll hLr
  have jm : ∀ (t : Int) st', ax_J (ax_S l sp bs tA D X L xs) d nb sb M t ls st' n sl es Q → W p l e R s mid args below meth c H locs cells slots QF (F0 mid t.toNat LS (st'.map (ax_v sp bs))) :=
    fun t st' hj => by
      obtain ⟨code', hb', hk⟩ := hj
      exact hk m hm (ax_blk_chk hm hb') p e R s mid args below meth c n0 sl0 QF hC hE H locs cells slots LS hSx hll hLr
  have h1 : 3 = len := hln.resolve_left (show ¬ (3 = 0) by decide)
  subst h1
  dsimp only [ax_enc] at henc
  split at henc
  · next t ht =>
    cases henc
    have ht := ax_off_spec ht
    dsimp only [ax_I] at hF
    split at hF
    · obtain ⟨hT, hN⟩ := hF
      cases cd
      · exact lv_if_eq hx hb hdec ht (fun h => jm _ _ (hT h)) (fun h => nx0 _ (hN h))
      · exact lv_if_ne hx hb hdec ht (fun h => jm _ _ (hT h)) (fun h => nx0 _ (hN (fun z => z h)))
      · exact lv_if_lt hx hb hdec ht (fun h => jm _ _ (hT h)) (fun h => nx0 _ (hN h))
      · exact lv_if_ge hx hb hdec ht (fun h => jm _ _ (hT h)) (fun h => nx0 _ (hN h))
      · exact lv_if_gt hx hb hdec ht (fun h => jm _ _ (hT h)) (fun h => nx0 _ (hN h))
      · exact lv_if_le hx hb hdec ht (fun h => jm _ _ (hT h)) (fun h => nx0 _ (hN h))
    · exact hF.elim
  · cases henc
set_option maxHeartbeats 1000000 in
theorem ax_st_if_icmp (cd : Jvm.ClassFile.Cond) (off : Int) : ax_St l sp bs tA D X L xs (.if_icmp cd off) := by
  intro d nb sb M i len rest pc ls st n sl es Q m hm hdec hln henc hchk hF p e R s mid args below meth c n0 sl0 QF hC hE H locs cells slots LS hSx hll hLr
  obtain ⟨hx, hb, hml, hret, hlk, hini, hown0, hts, hK, hfr, hlo, hnb, hsb, hsz, hscr⟩ := id hC
  have hown : s.vm.findClass (ax_nm (M / 128)) = some mid.cls := by rw [← ax_m_cls hm]; exact hown0
  have nx : ∀ ls' st' n' sl' es' H' locs' cells' slots' LS', ax_S l sp bs tA D X L xs d nb sb M rest (pc + len) ls' st' n' sl' es' Q → ax_Sx sp bs tA D L xs nb sb n0 sl0 s n' sl' es' H' locs' cells' slots' → ls'.length = m.2.2.1 → ax_lr sp bs LS' ls' → W p l e R s mid args below meth c H' locs' cells' slots' QF (F0 mid (pc + len) LS' (st'.map (ax_v sp bs))) :=
    fun ls' st' n' sl' es' H' locs' cells' slots' LS' hk h1 h2 h3 => hk m hm hchk p e R s mid args below meth c n0 sl0 QF hC hE H' locs' cells' slots' LS' h1 h2 h3
  have nx0 : ∀ st', ax_S l sp bs tA D X L xs d nb sb M rest (pc + len) ls st' n sl es Q → W p l e R s mid args below meth c H locs cells slots QF (F0 mid (pc + len) LS (st'.map (ax_v sp bs))) := fun st' hk => nx _ _ _ _ _ _ _ _ _ _ hk hSx hll hLr
  have jm : ∀ (t : Int) st', ax_J (ax_S l sp bs tA D X L xs) d nb sb M t ls st' n sl es Q → W p l e R s mid args below meth c H locs cells slots QF (F0 mid t.toNat LS (st'.map (ax_v sp bs))) :=
    fun t st' hj => by
      obtain ⟨code', hb', hk⟩ := hj
      exact hk m hm (ax_blk_chk hm hb') p e R s mid args below meth c n0 sl0 QF hC hE H locs cells slots LS hSx hll hLr
  have h1 : 3 = len := hln.resolve_left (show ¬ (3 = 0) by decide)
  subst h1
  dsimp only [ax_enc] at henc
  split at henc
  · next t ht =>
    cases henc
    have ht := ax_off_spec ht
    dsimp only [ax_I] at hF
    split at hF
    · obtain ⟨hT, hN⟩ := hF
      cases cd
      · exact lv_icmp_eq hx hb hdec ht (fun h => jm _ _ (hT h)) (fun h => nx0 _ (hN h))
      · exact lv_icmp_ne hx hb hdec ht (fun h => jm _ _ (hT h)) (fun h => nx0 _ (hN (fun z => z h)))
      · exact lv_icmp_lt hx hb hdec ht (fun h => jm _ _ (hT h)) (fun h => nx0 _ (hN h))
      · exact lv_icmp_ge hx hb hdec ht (fun h => jm _ _ (hT h)) (fun h => nx0 _ (hN h))
      · exact lv_icmp_gt hx hb hdec ht (fun h => jm _ _ (hT h)) (fun h => nx0 _ (hN h))
      · exact lv_icmp_le hx hb hdec ht (fun h => jm _ _ (hT h)) (fun h => nx0 _ (hN h))
    · exact hF.elim
  · cases henc
set_option maxHeartbeats 1000000 in
theorem ax_st_goto (off : Int) : ax_St l sp bs tA D X L xs (.goto off) := by
  intro d nb sb M i len rest pc ls st n sl es Q m hm hdec hln henc hchk hF p e R s mid args below meth c n0 sl0 QF hC hE H locs cells slots LS hSx hll hLr
  obtain ⟨hx, hb, hml, hret, hlk, hini, hown0, hts, hK, hfr, hlo, hnb, hsb, hsz, hscr⟩ := id hC
  have hown : s.vm.findClass (ax_nm (M / 128)) = some mid.cls := by rw [← ax_m_cls hm]; exact hown0
  have nx : ∀ ls' st' n' sl' es' H' locs' cells' slots' LS', ax_S l sp bs tA D X L xs d nb sb M rest (pc + len) ls' st' n' sl' es' Q → ax_Sx sp bs tA D L xs nb sb n0 sl0 s n' sl' es' H' locs' cells' slots' → ls'.length = m.2.2.1 → ax_lr sp bs LS' ls' → W p l e R s mid args below meth c H' locs' cells' slots' QF (F0 mid (pc + len) LS' (st'.map (ax_v sp bs))) :=
    fun ls' st' n' sl' es' H' locs' cells' slots' LS' hk h1 h2 h3 => hk m hm hchk p e R s mid args below meth c n0 sl0 QF hC hE H' locs' cells' slots' LS' h1 h2 h3
  have nx0 : ∀ st', ax_S l sp bs tA D X L xs d nb sb M rest (pc + len) ls st' n sl es Q → W p l e R s mid args below meth c H locs cells slots QF (F0 mid (pc + len) LS (st'.map (ax_v sp bs))) := fun st' hk => nx _ _ _ _ _ _ _ _ _ _ hk hSx hll hLr
  have jm : ∀ (t : Int) st', ax_J (ax_S l sp bs tA D X L xs) d nb sb M t ls st' n sl es Q → W p l e R s mid args below meth c H locs cells slots QF (F0 mid t.toNat LS (st'.map (ax_v sp bs))) :=
    fun t st' hj => by
      obtain ⟨code', hb', hk⟩ := hj
      exact hk m hm (ax_blk_chk hm hb') p e R s mid args below meth c n0 sl0 QF hC hE H locs cells slots LS hSx hll hLr
  have h1 : 3 = len := hln.resolve_left (show ¬ (3 = 0) by decide)
  subst h1
  dsimp only [ax_enc] at henc
  split at henc
  · next t ht =>
    cases henc
    exact lv_goto hx hb hdec (ax_off_spec ht) (jm _ _ hF)
  · cases henc
end AXST
