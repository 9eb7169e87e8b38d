/-! the small machine is right about the big one -/
def ax_Tb : List Cond := lw_tbl.filter goodWord
theorem ax_Tb_in {w : Cond} (h : w ∈ lw_tbl) (hg : goodWord w = true) : w ∈ ax_Tb := List.mem_filter.mpr ⟨h, hg⟩
theorem ax_nm_plain (o : Nat) : ax_nm o ≠ "java/lang/invoke/MethodHandle" ∧ ax_nm o ≠ "java/lang/invoke/VarHandle" := by
  unfold ax_nm
  split <;> exact ⟨by decide +kernel, by decide +kernel⟩
theorem ax_plain_all : (ax_cs.all fun l => l.all fun m => plainFor m.1) = true := by decide +kernel
theorem ax_lookup_mem {α : Type} : ∀ (l : List (Nat × α)) (k : Nat) (v : α), l.lookup k = some v → (k, v) ∈ l
  | [], _, _, h => by simp at h
  | (a, b) :: l, k, v, h => by
    rw [List.lookup_cons] at h
    by_cases hk : k = a
    · subst hk
      simp at h
      rw [h]
      exact List.mem_cons_self
    · have : (k == a) = false := by simpa using hk
      rw [this] at h
      exact List.mem_cons_of_mem _ (ax_lookup_mem l k v h)
theorem ax_m_mem {M : Nat} {m : ax_M} (h : ax_m M = some m) : ∃ l, ax_cs[M / 128]? = some l ∧ m ∈ l := by
  unfold ax_m at h
  split at h
  · exact ⟨_, by assumption, List.mem_of_getElem? h⟩
  · cases h
theorem ax_plain {M : Nat} {m : ax_M} (h : ax_m M = some m) : plainFor m.1 = true := by
  obtain ⟨l, h1, h2⟩ := ax_m_mem h
  exact List.all_eq_true.mp (List.all_eq_true.mp ax_plain_all l (List.mem_of_getElem? h1)) m h2
theorem ax_cs_ok : ∀ (o : Nat) (l : List ax_M), o ≠ 12 → ax_cs[o]? = some l → ∀ m ∈ l, ax_okM o m = true ∧ ax_okW m := by
  intro o l ho h m hm
  match o, ho, h with
  | 0, _, h => cases h; exact ⟨ax_kc_0 m hm, ax_wc_0 m hm⟩
  | 1, _, h => cases h; exact ⟨ax_kc_1 m hm, ax_wc_1 m hm⟩
  | 2, _, h => cases h; exact ⟨ax_kc_2 m hm, ax_wc_2 m hm⟩
  | 3, _, h => cases h; exact ⟨ax_kc_3 m hm, ax_wc_3 m hm⟩
  | 4, _, h => cases h; exact ⟨ax_kc_4 m hm, ax_wc_4 m hm⟩
  | 5, _, h => cases h; exact ⟨ax_kc_5 m hm, ax_wc_5 m hm⟩
  | 6, _, h => cases h; exact ⟨ax_kc_6 m hm, ax_wc_6 m hm⟩
  | 7, _, h => cases h; exact ⟨ax_kc_7 m hm, ax_wc_7 m hm⟩
  | 8, _, h => cases h; exact ⟨ax_kc_8 m hm, ax_wc_8 m hm⟩
  | 9, _, h => cases h; exact ⟨ax_kc_9 m hm, ax_wc_9 m hm⟩
  | 10, _, h => cases h; exact ⟨ax_kc_10 m hm, ax_wc_10 m hm⟩
  | 11, _, h => cases h; exact ⟨ax_kc_11 m hm, ax_wc_11 m hm⟩
  | 12, ho, _ => exact absurd rfl ho
  | 13, _, h => cases h; exact ⟨ax_kc_13 m hm, ax_wc_13 m hm⟩
  | 14, _, h => cases h; exact ⟨ax_kc_14 m hm, ax_wc_14 m hm⟩
  | 15, _, h => cases h; exact ⟨ax_kc_15 m hm, ax_wc_15 m hm⟩
  | o + 16, _, h => exact absurd (List.getElem?_eq_some_iff.mp h).1 (by simp [ax_cs])
theorem ax_m_ok {M : Nat} {m : ax_M} (h : ax_m M = some m) (ho : M / 128 ≠ 12) : ax_okM (M / 128) m = true ∧ ax_okW m := by
  obtain ⟨l, h1, h2⟩ := ax_m_mem h
  exact ax_cs_ok _ _ ho h1 m h2
theorem ax_okM_spec {o : Nat} {m : ax_M} (h : ax_okM o m = true) : m.1.cls = ax_nm o ∧ m.2.2.1 ≤ 45 ∧ m.2.2.2.2.1 ≤ 2 ∧ (m.2.2.2.2.1 = 2 ↔ m.1.name = "<init>") ∧ ∀ b ∈ m.2.2.2.2.2, ax_chk o (decide (m.1.name = "<init>")) m.2.1 b.1 b.2 = true := by
  unfold ax_okM at h
  simp only [Bool.and_eq_true, decide_eq_true_eq, List.all_eq_true] at h
  exact ⟨h.1.1.1.1, h.1.1.1.2, h.1.1.2, h.1.2, h.2⟩
theorem ax_law_only {M : Nat} {m : ax_M} (h : ax_m M = some m) (ho : M / 128 = 12) : m = ax_m_12_0 := by
  obtain ⟨l, h1, h2⟩ := ax_m_mem h
  rw [ho] at h1
  cases h1
  exact List.mem_singleton.mp h2
theorem ax_blk_chk {M t : Nat} {m : ax_M} {code : List (Nat × Instr)} (h : ax_m M = some m) (hb : ax_blk M t = some code) : ax_chk (M / 128) (decide (m.1.name = "<init>")) m.2.1 t code = true := by
  unfold ax_blk at hb
  rw [h] at hb
  have hm := ax_lookup_mem _ _ _ hb
  by_cases ho : M / 128 = 12
  · have := ax_law_only h ho
    subst this
    rw [ho]
    exact ax_klw (t, code) hm
  · exact (ax_okM_spec (ax_m_ok h ho).1).2.2.2.2 (t, code) hm
theorem ax_m_cls {M : Nat} {m : ax_M} (h : ax_m M = some m) : m.1.cls = ax_nm (M / 128) := by
  by_cases ho : M / 128 = 12
  · have := ax_law_only h ho
    subst this
    rw [ho]
    rfl
  · exact (ax_okM_spec (ax_m_ok h ho).1).1
theorem ax_m_small {M : Nat} {m : ax_M} (h : ax_m M = some m) : m.2.2.1 ≤ 45 := by
  by_cases ho : M / 128 = 12
  · have := ax_law_only h ho
    subst this
    decide
  · exact (ax_okM_spec (ax_m_ok h ho).1).2.1
theorem ax_res_in : ∀ (o : Nat) (r : Nat × Nat × Int), r ∈ ax_res o → o < 16 → ax_word o r ∈ lw_tbl := by
  intro o r h ho
  match o, ho, h with
  | 0, _, h => exact ax_rw_0 r h
  | 1, _, h => exact ax_rw_1 r h
  | 2, _, h => exact ax_rw_2 r h
  | 3, _, h => exact ax_rw_3 r h
  | 4, _, h => exact ax_rw_4 r h
  | 5, _, h => exact ax_rw_5 r h
  | 6, _, h => exact ax_rw_6 r h
  | 7, _, h => exact ax_rw_7 r h
  | 8, _, h => exact ax_rw_8 r h
  | 9, _, h => exact ax_rw_9 r h
  | 10, _, h => exact ax_rw_10 r h
  | 11, _, h => exact ax_rw_11 r h
  | 12, _, h => exact ax_rw_12 r h
  | 13, _, h => exact ax_rw_13 r h
  | 14, _, h => exact ax_rw_14 r h
  | 15, _, h => exact ax_rw_15 r h
  | o + 16, ho, _ => exact absurd ho (by omega)
theorem ax_m_lt {M : Nat} {m : ax_M} (h : ax_m M = some m) : M / 128 < 16 := by
  obtain ⟨l, h1, h2⟩ := ax_m_mem h
  have := (List.getElem?_eq_some_iff.mp h1).1
  simpa [ax_cs] using this
theorem ax_res_word {M : Nat} {m : ax_M} (h : ax_m M = some m) {k kd : Nat} {v : Int} (hl : (ax_res (M / 128)).lookup k = some (kd, v)) : ax_word (M / 128) (k, kd, v) ∈ lw_tbl :=
  ax_res_in _ _ (ax_lookup_mem _ _ _ hl) (ax_m_lt h)
/-- the classes -/
theorem ax_cl_ok : ∀ (c : Nat) (r : vw_C), ax_cl[c]? = some r → c ≠ 12 → (∀ w ∈ u_ws r.1 r.2.1 r.2.2, w ∈ lw_tbl) ∧ (∀ a, a < r.2.2 → ∀ b, b < r.2.2 → a ≠ b → (r.2.1 a).2.1 ≠ (r.2.1 b).2.1) ∧ (∀ k, k < r.2.2 → parseFieldDescriptor (r.2.1 k).2.2.1 = some (ax_ty c k)) ∧ Cond.instantiable r.1 r.2.2 ∈ lw_tbl ∧ Cond.initialized r.1 ∈ lw_tbl ∧ r.1 = ax_nm c ∧ ax_N c = r.2.2 := by
  intro c r h hc
  match c, h, hc with
  | 0, h, _ => cases h; exact ⟨ax_u_0, ax_un_0, ax_ut_0, ax_ui_0.1, ax_ui_0.2, rfl, rfl⟩
  | 1, h, _ => cases h; exact ⟨ax_u_1, ax_un_1, ax_ut_1, ax_ui_1.1, ax_ui_1.2, rfl, rfl⟩
  | 2, h, _ => cases h; exact ⟨ax_u_2, ax_un_2, ax_ut_2, ax_ui_2.1, ax_ui_2.2, rfl, rfl⟩
  | 3, h, _ => cases h; exact ⟨ax_u_3, ax_un_3, ax_ut_3, ax_ui_3.1, ax_ui_3.2, rfl, rfl⟩
  | 4, h, _ => cases h; exact ⟨ax_u_4, ax_un_4, ax_ut_4, ax_ui_4.1, ax_ui_4.2, rfl, rfl⟩
  | 5, h, _ => cases h; exact ⟨ax_u_5, ax_un_5, ax_ut_5, ax_ui_5.1, ax_ui_5.2, rfl, rfl⟩
  | 6, h, _ => cases h; exact ⟨ax_u_6, ax_un_6, ax_ut_6, ax_ui_6.1, ax_ui_6.2, rfl, rfl⟩
  | 7, h, _ => cases h; exact ⟨ax_u_7, ax_un_7, ax_ut_7, ax_ui_7.1, ax_ui_7.2, rfl, rfl⟩
  | 8, h, _ => cases h; exact ⟨ax_u_8, ax_un_8, ax_ut_8, ax_ui_8.1, ax_ui_8.2, rfl, rfl⟩
  | 9, h, _ => cases h; exact ⟨ax_u_9, ax_un_9, ax_ut_9, ax_ui_9.1, ax_ui_9.2, rfl, rfl⟩
  | 10, h, _ => cases h; exact ⟨ax_u_10, ax_un_10, ax_ut_10, ax_ui_10.1, ax_ui_10.2, rfl, rfl⟩
  | 11, h, _ => cases h; exact ⟨ax_u_11, ax_un_11, ax_ut_11, ax_ui_11.1, ax_ui_11.2, rfl, rfl⟩
  | 12, _, hc => exact absurd rfl hc
  | c + 13, h, _ => exact absurd (List.getElem?_eq_some_iff.mp h).1 (by simp [ax_cl])
theorem ax_lay_good (C : String) (T : u_T) (N : Nat) : ∀ w ∈ u_ws C T N, goodWord w = true := by
  intro w hw
  obtain ⟨k, -, rfl⟩ := List.mem_map.mp hw
  unfold u_lay
  split <;> rfl
theorem ax_cl_Tb {c : Nat} {r : vw_C} (h : ax_cl[c]? = some r) (hc : c ≠ 12) : ∀ w ∈ u_ws r.1 r.2.1 r.2.2, w ∈ ax_Tb := fun w hw => ax_Tb_in ((ax_cl_ok c r h hc).1 w hw) (ax_lay_good _ _ _ w hw)
def ax_Kn (tA : Nat → ClassId) (D : va_G) (X : State → Prop) (U : State) : Prop := va_K D ax_cl (ax_tys tA) U ∧ (∀ a i x h, Cond.methodLinkNest a i x h ∈ lw_tbl → va_Nw (.methodLinkNest a i x h) U) ∧ X U
def ax_AR (sp : Nat → Nat) (bs : Nat) (tA : Nat → ClassId) (D : va_G) (L : Nat) (xs : Nat → Int32) (n : Nat) (es : ax_H) (H : Heap) : Prop := va_P D ax_cl (ax_ws sp bs tA (ax_al n) es) H ∧ (bs + ax_al n ≤ H.size ∧ (n ≤ ax_NF → H.size = bs + n)) ∧ es ax_scr = .inl (0, L, .inl xs)
def ax_rins (r : Option Value) : Instr := match r with
  | none => .return_
  | some (.ref _) => .areturn
  | some _ => .ireturn
def ax_rok (t : Option FieldType) (r : Option Value) : Prop := match r with
  | none => t = none
  | some (.ref _) => ∃ nm, t = some (.object nm)
  | some v => ax_rtok t v
/-- what stays while a method runs -/
def ax_Cx (bs : Nat) (tA : Nat → ClassId) (D : va_G) (X : State → Prop) (d nb sb : Nat) (m : ax_M) (p : Program) (R : Room) (s : State) (mid : MethodId) (args : Array Value) (meth : Method) (c : Code) (n0 sl0 : Nat) : Prop :=
  p.tables.exec = Jvm.exec ∧ c.code = m.2.1 ∧ c.maxLocals = m.2.2.1 ∧ meth.sig.returnType = m.2.2.2.1 ∧ meth.locks = false ∧ (m.1.name = "<init>" → meth.name = "<init>") ∧ s.vm.findClass m.1.cls = some mid.cls ∧ (∀ w ∈ ax_Tb, w.before args s = true) ∧ ax_Kn tA D X s ∧
  d ≤ R.frames ∧ 64 * d ≤ R.locals ∧ nb = n0 + R.cells ∧ sb = sl0 + R.slots ∧ (bs + ax_al n0 ≤ s.heap.size ∧ (n0 ≤ ax_NF → s.heap.size = bs + n0)) ∧ nb ≤ ax_scr
def ax_Sx (sp : Nat → Nat) (bs : Nat) (tA : Nat → ClassId) (D : va_G) (L : Nat) (xs : Nat → Int32) (nb sb n0 sl0 : Nat) (s : State) (n sl : Nat) (es : ax_H) (H : Heap) (locs : List Loc) (cells slots : Nat) : Prop :=
  n = n0 + cells ∧ sl = sl0 + slots ∧ n ≤ nb ∧ sl ≤ sb ∧ ax_AR sp bs tA D L xs n es H ∧ va_S (fun q => bs ≤ q) s.heap H locs
def ax_Ed (l : Launch) (sp : Nat → Nat) (bs : Nat) (tA : Nat → ClassId) (D : va_G) (L : Nat) (xs : Nat → Int32) (nb sb : Nat) (m : ax_M) (Q : ax_Q) (p : Program) (e : Env) (R : Room) (s : State) (mid : MethodId) (args : Array Value) (below : List Frame) (meth : Method) (c : Code) (n0 sl0 : Nat) (QF : State → Prop) : Prop :=
  ∀ r n' sl' es' H' locs' cells' slots' pc' LS', Q r n' sl' es' → ax_rok m.2.2.2.1 r → ax_Sx sp bs tA D L xs nb sb n0 sl0 s n' sl' es' H' locs' cells' slots' → decode m.2.1 pc' = .ok (ax_rins r, 1) →
    W p l e R s mid args below meth c H' locs' cells' slots' QF (F0 mid pc' LS' (r.map (ax_v sp bs)).toList)
def ax_S (l : Launch) (sp : Nat → Nat) (bs : Nat) (tA : Nat → ClassId) (D : va_G) (X : State → Prop) (L : Nat) (xs : Nat → Int32) : ax_P := fun d nb sb M code pc ls st n sl es Q =>
  ∀ m, ax_m M = some m → ax_chk (M / 128) (decide (m.1.name = "<init>")) m.2.1 pc code = true →
  ∀ (p : Program) (e : Env) (R : Room) (s : State) (mid : MethodId) (args : Array Value) (below : List Frame) (meth : Method) (c : Code) (n0 sl0 : Nat) (QF : State → Prop),
    ax_Cx bs tA D X d nb sb m p R s mid args meth c n0 sl0 → ax_Ed l sp bs tA D L xs nb sb m Q p e R s mid args below meth c n0 sl0 QF →
  ∀ (H : Heap) (locs : List Loc) (cells slots : Nat) (LS : Array Slot), ax_Sx sp bs tA D L xs nb sb n0 sl0 s n sl es H locs cells slots → ls.length = m.2.2.1 → ax_lr sp bs LS ls →
    W p l e R s mid args below meth c H locs cells slots QF (F0 mid pc LS (st.map (ax_v sp bs)))
section AXB
variable {p : Program} {l : Launch} {e : Env} {R : Room} {s : State} {m : MethodId} {args : Array Value} {below : List Frame} {meth : Method} {c : Code} {H : Heap} {locs : List Loc} {cells slots : Nat} {Q : State → Prop} {g : JFrame}
theorem ax_bound (k : H.size ≤ s.heap.size + cells → W p l e R s m args below meth c H locs cells slots Q g) : W p l e R s m args below meth c H locs cells slots Q g := by
  intro T hT X
  have h := X.same.2.2.1
  have e1 : (T.setVm s.vm).heap = T.heap := rfl
  rw [e1, hT] at h
  exact k h T hT X
/-- behind a call -/
theorem ax_after {pc mc ms : Nat} {ls : Array Slot} {rest st0 : List Value} {Qa : State → Outcome → State → Prop} {free : Addr → Prop} (hr : va_Run p l e R s m args below meth c H locs cells slots mc ms (F0 m pc ls st0) rest Qa free)
    (kk : ∀ (v : Option Value) (st₀ t : State) (L : List Loc), st₀.heap = H → Qa st₀ (.returned v) t → (∀ q ∈ L, free q.base) → W p l e R s m args below meth c t.heap (locs ++ L) (cells + mc) (slots + ms) Q (F0 m (pc + 3) ls (v.toList ++ rest))) : W p l e R s m args below meth c H locs cells slots Q (F0 m pc ls st0) := by
  intro T hT X
  obtain ⟨v, st₀, t, T', L, h0, X', hL, e1, e2, hq, st⟩ := hr T hT X
  obtain ⟨t2, a1, b1⟩ := kk v st₀ t L h0 hq hL T' e1 X'
  exact ⟨t2, st t2 a1, b1⟩
end AXB
