/-! new cells, switches, copies; all instructions -/
theorem ax_fd_own {o c k : Nat} {C : String} {T : u_T} {N : Nat} (h : ax_cl[c]? = some (C, T, N)) (h12 : c ≠ 12) (hk : k < N) (ho : c = o) : (T k).1 = ax_nm o := by
  subst ho
  match c, h, h12 with
  | 0, h, _ => cases h; revert k; decide +kernel
  | 1, h, _ => cases h; revert k; decide +kernel
  | 2, h, _ => cases h; revert k; decide +kernel
  | 3, h, _ => cases h; revert k; decide +kernel
  | 4, h, _ => cases h; revert k; decide +kernel
  | 5, h, _ => cases h; revert k; decide +kernel
  | 6, h, _ => cases h; revert k; decide +kernel
  | 7, h, _ => cases h; revert k; decide +kernel
  | 8, h, _ => cases h; revert k; decide +kernel
  | 9, h, _ => cases h; revert k; decide +kernel
  | 10, h, _ => cases h; revert k; decide +kernel
  | 11, h, _ => cases h; revert k; decide +kernel
  | 12, _, h => exact absurd rfl h
  | c + 13, h, _ => exact absurd (List.getElem?_eq_some_iff.mp h).1 (by simp [ax_cl])
theorem ax_none_all : (ax_cs.all fun l => l.all fun m => !(m.2.2.2.2.1 == 2) || decide (m.2.2.2.1 = none)) = true := by decide +kernel
theorem ax_none (M : Nat) (m : ax_M) (h : ax_m M = some m) (hk : m.2.2.2.2.1 = 2) : m.2.2.2.1 = none := by
  obtain ⟨l, h1, h2⟩ := ax_m_mem h
  have h3 := List.all_eq_true.mp (List.all_eq_true.mp ax_none_all l (List.mem_of_getElem? h1)) m h2
  simpa [hk] using h3
theorem ax_ty_nf (c j : Nat) : ax_ty c j ≠ .float ∧ ax_ty c j ≠ .double := by
  unfold ax_ty
  split
  · unfold ax_t0; split <;> exact ⟨(fun h => by cases h), (fun h => by cases h)⟩
  · unfold ax_t1; split <;> exact ⟨(fun h => by cases h), (fun h => by cases h)⟩
  · unfold ax_t2; split <;> exact ⟨(fun h => by cases h), (fun h => by cases h)⟩
  · unfold ax_t3; split <;> exact ⟨(fun h => by cases h), (fun h => by cases h)⟩
  · unfold ax_t4; split <;> exact ⟨(fun h => by cases h), (fun h => by cases h)⟩
  · unfold ax_t5; split <;> exact ⟨(fun h => by cases h), (fun h => by cases h)⟩
  · unfold ax_t6; split <;> exact ⟨(fun h => by cases h), (fun h => by cases h)⟩
  · unfold ax_t7; split <;> exact ⟨(fun h => by cases h), (fun h => by cases h)⟩
  · unfold ax_t8; split <;> exact ⟨(fun h => by cases h), (fun h => by cases h)⟩
  · unfold ax_t9; split <;> exact ⟨(fun h => by cases h), (fun h => by cases h)⟩
  · unfold ax_t10; split <;> exact ⟨(fun h => by cases h), (fun h => by cases h)⟩
  · unfold ax_t11; split <;> exact ⟨(fun h => by cases h), (fun h => by cases h)⟩
theorem ax_v_df (sp : Nat → Nat) (bs : Nat) {t : FieldType} (h : t ≠ .float) : ax_v sp bs (defaultValue t) = defaultValue t := by
  cases t <;> first | rfl | exact absurd rfl h
theorem ax_df_at (sp : Nat → Nat) (bs c : Nat) {j : Nat} (hj : j < ax_N c) : defaultValue (ax_ty c j) = vp_V ((ax_df c).map (ax_v sp bs)) j := by
  unfold vp_V ax_df
  rw [List.map_map, List.getD_eq_getElem?_getD, List.getElem?_map, List.getElem?_range hj]
  exact (ax_v_df sp bs (ax_ty_nf c j).1).symm
theorem ax_lookup_eq (pc : Nat) (dflt x : Int) : ∀ ps : List (Int × Int), ax_lookup (ps.map fun q => (q.1, (pc : Int) + q.2)) (pc + dflt) x = pc + Op.lookupswitch.offset ps dflt x
  | [] => rfl
  | (a, b) :: ps => by
    rw [List.map_cons, ax_lookup, Op.lookupswitch.offset_cons, ax_lookup_eq pc dflt x ps]
    by_cases h : a = x
    · simp [h]
    · simp [h]
theorem ax_lookup_pos (dflt x : Int) : ∀ ps : List (Int × Int), 0 ≤ dflt → (∀ q ∈ ps, 0 ≤ q.2) → 0 ≤ ax_lookup ps dflt x
  | [], h, _ => h
  | (a, b) :: ps, h, hp => by
    rw [ax_lookup]
    split
    · exact hp (a, b) List.mem_cons_self
    · exact ax_lookup_pos dflt x ps h (fun q hq => hp q (List.mem_cons_of_mem _ hq))
section AXNEW
variable {l : Launch} {sp : Nat → Nat} {bs : Nat} {tA : Nat → ClassId} {D : va_G} {X : State → Prop} {L : Nat} {xs : Nat → Int32}
set_option maxHeartbeats 1000000 in
theorem ax_st_new (k : Nat) : ax_St l sp bs tA D X L xs (.new k) := by
  intro d nb sb M i len rest pc ls st n sl es Q m hm hdec hln henc hchk hF p e R s mid args below meth c n0 sl0 QF hC hE H locs cells slots LS hSx hll hLr
  obtain ⟨hx, hb, hml, hret, hlk, hini, hown0, hts, hK, hfr, hlo, hnb, hsb, hsz, hscr⟩ := id hC
  have hown : s.vm.findClass (ax_nm (M / 128)) = some mid.cls := by rw [← ax_m_cls hm]; exact hown0
  have nx : ∀ ls' st' n' sl' es' H' locs' cells' slots' LS', ax_S l sp bs tA D X L xs d nb sb M rest (pc + len) ls' st' n' sl' es' Q → ax_Sx sp bs tA D L xs nb sb n0 sl0 s n' sl' es' H' locs' cells' slots' → ls'.length = m.2.2.1 → ax_lr sp bs LS' ls' → W p l e R s mid args below meth c H' locs' cells' slots' QF (F0 mid (pc + len) LS' (st'.map (ax_v sp bs))) :=
    fun ls' st' n' sl' es' H' locs' cells' slots' LS' hk h1 h2 h3 => hk m hm hchk p e R s mid args below meth c n0 sl0 QF hC hE H' locs' cells' slots' LS' h1 h2 h3
  have nx0 : ∀ st', ax_S l sp bs tA D X L xs d nb sb M rest (pc + len) ls st' n sl es Q → W p l e R s mid args below meth c H locs cells slots QF (F0 mid (pc + len) LS (st'.map (ax_v sp bs))) := fun st' hk => nx _ _ _ _ _ _ _ _ _ _ hk hSx hll hLr
  have h1 : 3 = len := hln.resolve_left (show ¬ (3 = 0) by decide)
  subst h1
  dsimp only [ax_enc] at henc
  split at henc
  · next v hlk =>
    cases henc
    obtain ⟨hv12, hw⟩ := ax_cls hm hlk
    obtain ⟨⟨C, T, N⟩, hr⟩ := ax_cl_at hv12
    have hok := ax_cl_ok _ _ hr (by omega)
    dsimp only [ax_I] at hF
    obtain ⟨hNF, h1, h2, hF⟩ := hF
    have hNN : ax_N v.toNat = N := hok.2.2.2.2.2.2
    have hCn : C = ax_nm v.toNat := hok.2.2.2.2.2.1
    have hdf := fun j (hj : j < N) => ax_df_at sp bs v.toNat (j := j) (by rw [hNN]; exact hj)
    rw [hNN] at h2 hF
    have hcr : cells + 1 ≤ R.cells ∧ slots + N ≤ R.slots := by
      obtain ⟨a1, a2, a3, a4, -⟩ := hSx
      omega
    have hA : ∀ q, H.size ≤ q → bs ≤ q := fun q hq => by
      have := hSx.2.2.2.2.1.2.1.1
      omega
    refine va_new (c0 := c) (fs := (ax_df v.toNat).map (ax_v sp bs)) hx hb hts (ax_cl_Tb hr (by omega)) (ax_ty v.toNat) hok.2.2.1 hown (by rw [hCn]; exact hts _ hw) (hts _ (ax_Tb_in hok.2.2.2.1 rfl)) (hts _ (ax_Tb_in hok.2.2.2.2.1 rfl)) hK.1 hSx.2.2.2.2.1.1 (ax_ws_D sp bs tA (ax_al n) es) (ax_S_self hSx.2.2.2.2.2) hA hr hdf hcr.1 hcr.2 hdec (fun q H1 hP1 hD1 hS1 => ?_)
    refine ax_bound (fun hb1 => ?_)
    have hq := ax_fresh hSx hP1 hD1 hb1 hsz hNF
    subst hq
    exact nx _ _ _ _ _ _ _ _ _ _ hF (ax_made (e := .inr (v.toNat, ax_df v.toNat)) hSx hP1 hS1 hb1 hsz hNF h1 h2 hscr) hll hLr
  · cases henc
set_option maxHeartbeats 1000000 in
theorem ax_st_newarray (t : ArrayType) : ax_St l sp bs tA D X L xs (.newarray t) := by
  intro d nb sb M i len rest pc ls st n sl es Q m hm hdec hln henc hchk hF p e R s mid args below meth c n0 sl0 QF hC hE H locs cells slots LS hSx hll hLr
  obtain ⟨hx, hb, hml, hret, hlk, hini, hown0, hts, hK, hfr, hlo, hnb, hsb, hsz, hscr⟩ := id hC
  have hown : s.vm.findClass (ax_nm (M / 128)) = some mid.cls := by rw [← ax_m_cls hm]; exact hown0
  have nx : ∀ ls' st' n' sl' es' H' locs' cells' slots' LS', ax_S l sp bs tA D X L xs d nb sb M rest (pc + len) ls' st' n' sl' es' Q → ax_Sx sp bs tA D L xs nb sb n0 sl0 s n' sl' es' H' locs' cells' slots' → ls'.length = m.2.2.1 → ax_lr sp bs LS' ls' → W p l e R s mid args below meth c H' locs' cells' slots' QF (F0 mid (pc + len) LS' (st'.map (ax_v sp bs))) :=
    fun ls' st' n' sl' es' H' locs' cells' slots' LS' hk h1 h2 h3 => hk m hm hchk p e R s mid args below meth c n0 sl0 QF hC hE H' locs' cells' slots' LS' h1 h2 h3
  have nx0 : ∀ st', ax_S l sp bs tA D X L xs d nb sb M rest (pc + len) ls st' n sl es Q → W p l e R s mid args below meth c H locs cells slots QF (F0 mid (pc + len) LS (st'.map (ax_v sp bs))) := fun st' hk => nx _ _ _ _ _ _ _ _ _ _ hk hSx hll hLr
  have h1 : 2 = len := hln.resolve_left (show ¬ (2 = 0) by decide)
  subst h1
  cases henc
  dsimp only [ax_I] at hF
  split at hF
  · next cv st' =>
    obtain ⟨hNF, h1, h2, h3, h4, h5, hF⟩ := hF
    have hcr : cells + 1 ≤ R.cells ∧ slots + cv.toNatClampNeg ≤ R.slots := by
      obtain ⟨a1, a2, a3, a4, -⟩ := hSx
      omega
    have hA : ∀ q, H.size ≤ q → bs ≤ q := fun q hq => by
      have := hSx.2.2.2.2.1.2.1.1
      omega
    cases t with
    | int =>
      refine va_newa (atype := .int) (ty := .int) (a0 := (cv.toNatClampNeg, .inl fun _ => 0)) hx hb (hts _ (ax_Tb_in ax_ua_int rfl)) rfl hK.1 hSx.2.2.2.2.1.1 (ax_ws_D sp bs tA (ax_al n) es) (ax_S_self hSx.2.2.2.2.2) hA (fun cA => rfl) h3 rfl (by show cv.toNatClampNeg * 4 ≤ 536870912; omega) hcr.1 hcr.2 hdec (fun q cA H1 hK1 hP1 hD1 hS1 => ?_)
      have hcA : cA = tA 0 := by
        have e1 : va_RA s cA .int := (hK1.2 6 (cA, .int) rfl).2
        have e2 : va_RA s (tA 0) .int := (hK.1.2 0 _ (ax_tys_at tA (t := 0) (by decide))).2
        exact Option.some.inj ((show s.vm.findClass ("[" ++ (FieldType.int).toString) = some cA from e1).symm.trans e2)
      subst hcA
      refine ax_bound (fun hb1 => ?_)
      have hq := ax_fresh hSx hP1 hD1 hb1 hsz hNF
      subst hq
      exact nx _ _ _ _ _ _ _ _ _ _ hF (ax_made (e := .inl (0, cv.toNatClampNeg, .inl fun _ => 0)) hSx hP1 hS1 hb1 hsz hNF h1 h2 hscr) hll hLr
    | byte =>
      refine va_newa (atype := .byte) (ty := .byte) (a0 := (cv.toNatClampNeg, .inl fun _ => 0)) hx hb (hts _ (ax_Tb_in ax_ua_byte rfl)) rfl hK.1 hSx.2.2.2.2.1.1 (ax_ws_D sp bs tA (ax_al n) es) (ax_S_self hSx.2.2.2.2.2) hA (fun cA => rfl) h3 rfl (by show cv.toNatClampNeg * 1 ≤ 536870912; omega) hcr.1 hcr.2 hdec (fun q cA H1 hK1 hP1 hD1 hS1 => ?_)
      have hcA : cA = tA 1 := by
        have e1 : va_RA s cA .byte := (hK1.2 6 (cA, .byte) rfl).2
        have e2 : va_RA s (tA 1) .byte := (hK.1.2 1 _ (ax_tys_at tA (t := 1) (by decide))).2
        exact Option.some.inj ((show s.vm.findClass ("[" ++ (FieldType.byte).toString) = some cA from e1).symm.trans e2)
      subst hcA
      refine ax_bound (fun hb1 => ?_)
      have hq := ax_fresh hSx hP1 hD1 hb1 hsz hNF
      subst hq
      exact nx _ _ _ _ _ _ _ _ _ _ hF (ax_made (e := .inl (1, cv.toNatClampNeg, .inl fun _ => 0)) hSx hP1 hS1 hb1 hsz hNF h1 h2 hscr) hll hLr
    | boolean =>
      refine va_newa (atype := .boolean) (ty := .boolean) (a0 := (cv.toNatClampNeg, .inl fun _ => 0)) hx hb (hts _ (ax_Tb_in ax_ua_boolean rfl)) rfl hK.1 hSx.2.2.2.2.1.1 (ax_ws_D sp bs tA (ax_al n) es) (ax_S_self hSx.2.2.2.2.2) hA (fun cA => rfl) h3 rfl (by show cv.toNatClampNeg * 1 ≤ 536870912; omega) hcr.1 hcr.2 hdec (fun q cA H1 hK1 hP1 hD1 hS1 => ?_)
      have hcA : cA = tA 2 := by
        have e1 : va_RA s cA .boolean := (hK1.2 6 (cA, .boolean) rfl).2
        have e2 : va_RA s (tA 2) .boolean := (hK.1.2 2 _ (ax_tys_at tA (t := 2) (by decide))).2
        exact Option.some.inj ((show s.vm.findClass ("[" ++ (FieldType.boolean).toString) = some cA from e1).symm.trans e2)
      subst hcA
      refine ax_bound (fun hb1 => ?_)
      have hq := ax_fresh hSx hP1 hD1 hb1 hsz hNF
      subst hq
      exact nx _ _ _ _ _ _ _ _ _ _ hF (ax_made (e := .inl (2, cv.toNatClampNeg, .inl fun _ => 0)) hSx hP1 hS1 hb1 hsz hNF h1 h2 hscr) hll hLr
    | long =>
      refine va_newa (atype := .long) (ty := .long) (a0 := (cv.toNatClampNeg, .inr (.inl fun _ => 0))) hx hb (hts _ (ax_Tb_in ax_ua_long rfl)) rfl hK.1 hSx.2.2.2.2.1.1 (ax_ws_D sp bs tA (ax_al n) es) (ax_S_self hSx.2.2.2.2.2) hA (fun cA => rfl) h3 rfl (by show cv.toNatClampNeg * 8 ≤ 536870912; omega) hcr.1 hcr.2 hdec (fun q cA H1 hK1 hP1 hD1 hS1 => ?_)
      have hcA : cA = tA 3 := by
        have e1 : va_RA s cA .long := (hK1.2 6 (cA, .long) rfl).2
        have e2 : va_RA s (tA 3) .long := (hK.1.2 3 _ (ax_tys_at tA (t := 3) (by decide))).2
        exact Option.some.inj ((show s.vm.findClass ("[" ++ (FieldType.long).toString) = some cA from e1).symm.trans e2)
      subst hcA
      refine ax_bound (fun hb1 => ?_)
      have hq := ax_fresh hSx hP1 hD1 hb1 hsz hNF
      subst hq
      exact nx _ _ _ _ _ _ _ _ _ _ hF (ax_made (e := .inl (3, cv.toNatClampNeg, .inr (.inl fun _ => 0))) hSx hP1 hS1 hb1 hsz hNF h1 h2 hscr) hll hLr
    | _ => exact absurd h5 (by decide)
  · exact hF.elim
set_option maxHeartbeats 1000000 in
theorem ax_st_anewarray (hAO : ∀ U : State, X U → va_AO "ShakingCourt$Bowl" U ∧ va_AO "ShakingCourt$Felt" U) (k : Nat) : ax_St l sp bs tA D X L xs (.anewarray k) := by
  intro d nb sb M i len rest pc ls st n sl es Q m hm hdec hln henc hchk hF p e R s mid args below meth c n0 sl0 QF hC hE H locs cells slots LS hSx hll hLr
  obtain ⟨hx, hb, hml, hret, hlk, hini, hown0, hts, hK, hfr, hlo, hnb, hsb, hsz, hscr⟩ := id hC
  have hown : s.vm.findClass (ax_nm (M / 128)) = some mid.cls := by rw [← ax_m_cls hm]; exact hown0
  have nx : ∀ ls' st' n' sl' es' H' locs' cells' slots' LS', ax_S l sp bs tA D X L xs d nb sb M rest (pc + len) ls' st' n' sl' es' Q → ax_Sx sp bs tA D L xs nb sb n0 sl0 s n' sl' es' H' locs' cells' slots' → ls'.length = m.2.2.1 → ax_lr sp bs LS' ls' → W p l e R s mid args below meth c H' locs' cells' slots' QF (F0 mid (pc + len) LS' (st'.map (ax_v sp bs))) :=
    fun ls' st' n' sl' es' H' locs' cells' slots' LS' hk h1 h2 h3 => hk m hm hchk p e R s mid args below meth c n0 sl0 QF hC hE H' locs' cells' slots' LS' h1 h2 h3
  have nx0 : ∀ st', ax_S l sp bs tA D X L xs d nb sb M rest (pc + len) ls st' n sl es Q → W p l e R s mid args below meth c H locs cells slots QF (F0 mid (pc + len) LS (st'.map (ax_v sp bs))) := fun st' hk => nx _ _ _ _ _ _ _ _ _ _ hk hSx hll hLr
  have h1 : 3 = len := hln.resolve_left (show ¬ (3 = 0) by decide)
  subst h1
  dsimp only [ax_enc] at henc
  split at henc
  · next v hlk =>
    cases henc
    obtain ⟨hv12, hw⟩ := ax_cls hm hlk
    dsimp only [ax_I] at hF
    split at hF
    · next cv st' =>
      obtain ⟨hNF, h1, h2, h3, h4, h5, hF⟩ := hF
      have hcr : cells + 1 ≤ R.cells ∧ slots + cv.toNatClampNeg ≤ R.slots := by
        obtain ⟨a1, a2, a3, a4, -⟩ := hSx
        omega
      have hA : ∀ q, H.size ≤ q → bs ≤ q := fun q hq => by
        have := hSx.2.2.2.2.1.2.1.1
        omega
      have hv02 : v.toNat = 0 ∨ v.toNat = 2 := by
        unfold ax_otag at h5
        split at h5
        · next h => exact Or.inl h
        · next h => exact Or.inr h
        · exact absurd h5 (by decide)
      rcases hv02 with hv0 | hv0
      · have hCn : ax_nm v.toNat = "ShakingCourt$Bowl" := by rw [hv0]; rfl
        have hot : ax_otag v.toNat = 4 := by rw [hv0]; rfl
        rw [hot] at hF
        rw [hCn] at hw
        refine va_newq hx hb hown (hts _ hw) (hAO s hK.2.2).1 hK.1 hSx.2.2.2.2.1.1 (ax_ws_D sp bs tA (ax_al n) es) (ax_S_self hSx.2.2.2.2.2) hA h3 rfl (by omega) hcr.1 hcr.2 hdec (fun q cA H1 hK1 hP1 hD1 hS1 => ?_)
        have hcA : cA = tA 4 := by
          have e1 : va_RA s cA (.object "ShakingCourt$Bowl") := (hK1.2 6 (cA, .object "ShakingCourt$Bowl") rfl).2
          have e2 : va_RA s (tA 4) (.object "ShakingCourt$Bowl") := (hK.1.2 4 _ (ax_tys_at tA (t := 4) (by decide))).2
          obtain ⟨_, _, _, _, _, f1⟩ := e1
          obtain ⟨_, _, _, _, _, f2⟩ := e2
          exact Option.some.inj (f1.symm.trans f2)
        subst hcA
        refine ax_bound (fun hb1 => ?_)
        have hq := ax_fresh hSx hP1 hD1 hb1 hsz hNF
        subst hq
        exact nx _ _ _ _ _ _ _ _ _ _ hF (ax_made (e := .inl (4, cv.toNatClampNeg, .inr (.inr (.inr (.inr fun _ => none))))) hSx hP1 hS1 hb1 hsz hNF h1 h2 hscr) hll hLr
      · have hCn : ax_nm v.toNat = "ShakingCourt$Felt" := by rw [hv0]; rfl
        have hot : ax_otag v.toNat = 5 := by rw [hv0]; rfl
        rw [hot] at hF
        rw [hCn] at hw
        refine va_newq hx hb hown (hts _ hw) (hAO s hK.2.2).2 hK.1 hSx.2.2.2.2.1.1 (ax_ws_D sp bs tA (ax_al n) es) (ax_S_self hSx.2.2.2.2.2) hA h3 rfl (by omega) hcr.1 hcr.2 hdec (fun q cA H1 hK1 hP1 hD1 hS1 => ?_)
        have hcA : cA = tA 5 := by
          have e1 : va_RA s cA (.object "ShakingCourt$Felt") := (hK1.2 6 (cA, .object "ShakingCourt$Felt") rfl).2
          have e2 : va_RA s (tA 5) (.object "ShakingCourt$Felt") := (hK.1.2 5 _ (ax_tys_at tA (t := 5) (by decide))).2
          obtain ⟨_, _, _, _, _, f1⟩ := e1
          obtain ⟨_, _, _, _, _, f2⟩ := e2
          exact Option.some.inj (f1.symm.trans f2)
        subst hcA
        refine ax_bound (fun hb1 => ?_)
        have hq := ax_fresh hSx hP1 hD1 hb1 hsz hNF
        subst hq
        exact nx _ _ _ _ _ _ _ _ _ _ hF (ax_made (e := .inl (5, cv.toNatClampNeg, .inr (.inr (.inr (.inr fun _ => none))))) hSx hP1 hS1 hb1 hsz hNF h1 h2 hscr) hll hLr
    · exact hF.elim
  · cases henc
set_option maxHeartbeats 1000000 in
theorem ax_st_tableswitch (dflt lo hi : Int) (offs : Array Int) : ax_St l sp bs tA D X L xs (.tableswitch dflt lo hi offs) := by
  intro d nb sb M i len rest pc ls st n sl es Q m hm hdec hln henc hchk hF p e R s mid args below meth c n0 sl0 QF hC hE H locs cells slots LS hSx hll hLr
  obtain ⟨hx, hb, hml, hret, hlk, hini, hown0, hts, hK, hfr, hlo, hnb, hsb, hsz, hscr⟩ := id hC
  have hown : s.vm.findClass (ax_nm (M / 128)) = some mid.cls := by rw [← ax_m_cls hm]; exact hown0
  have nx : ∀ ls' st' n' sl' es' H' locs' cells' slots' LS', ax_S l sp bs tA D X L xs d nb sb M rest (pc + len) ls' st' n' sl' es' Q → ax_Sx sp bs tA D L xs nb sb n0 sl0 s n' sl' es' H' locs' cells' slots' → ls'.length = m.2.2.1 → ax_lr sp bs LS' ls' → W p l e R s mid args below meth c H' locs' cells' slots' QF (F0 mid (pc + len) LS' (st'.map (ax_v sp bs))) :=
    fun ls' st' n' sl' es' H' locs' cells' slots' LS' hk h1 h2 h3 => hk m hm hchk p e R s mid args below meth c n0 sl0 QF hC hE H' locs' cells' slots' LS' h1 h2 h3
  have nx0 : ∀ st', ax_S l sp bs tA D X L xs d nb sb M rest (pc + len) ls st' n sl es Q → W p l e R s mid args below meth c H locs cells slots QF (F0 mid (pc + len) LS (st'.map (ax_v sp bs))) := fun st' hk => nx _ _ _ _ _ _ _ _ _ _ hk hSx hll hLr
  have jm : ∀ (t : Int) st', ax_J (ax_S l sp bs tA D X L xs) d nb sb M t ls st' n sl es Q → W p l e R s mid args below meth c H locs cells slots QF (F0 mid t.toNat LS (st'.map (ax_v sp bs))) :=
    fun t st' hj => by
      obtain ⟨code', hb', hk⟩ := hj
      exact hk m hm (ax_blk_chk hm hb') p e R s mid args below meth c n0 sl0 QF hC hE H locs cells slots LS hSx hll hLr
  dsimp only [ax_enc] at henc
  split at henc
  · next hcond =>
    cases henc
    dsimp only [ax_I] at hF
    split at hF
    · next x st' =>
      by_cases hA : x.toInt < lo ∨ hi < x.toInt
      · exact lv_tableOut hx hb hdec hA (by omega) (jm _ _ (hF.1 hA))
      · have hF := hF.2 hA
        rw [Array.getElem?_map] at hF
        cases ho : offs[(x.toInt - lo).toNat]? with
        | none =>
          rw [ho] at hF
          exact (show False from hF).elim
        | some off =>
          rw [ho] at hF
          have hpos : 0 ≤ (pc : Int) + off := by
            have h9 := Array.all_eq_true_iff_forall_mem.mp hcond.2 off (Array.mem_of_getElem? ho)
            simpa using h9
          exact lv_tableIn (tgt := ((pc : Int) + off).toNat) hx hb hdec (fun z => hA (Or.inl z)) (fun z => hA (Or.inr z)) ho (by omega) (jm ((pc : Int) + off) _ hF)
    · exact hF.elim
  · cases henc
set_option maxHeartbeats 1000000 in
theorem ax_st_lookupswitch (dflt : Int) (ps : Array (Int × Int)) : ax_St l sp bs tA D X L xs (.lookupswitch dflt ps) := by
  intro d nb sb M i len rest pc ls st n sl es Q m hm hdec hln henc hchk hF p e R s mid args below meth c n0 sl0 QF hC hE H locs cells slots LS hSx hll hLr
  obtain ⟨hx, hb, hml, hret, hlk, hini, hown0, hts, hK, hfr, hlo, hnb, hsb, hsz, hscr⟩ := id hC
  have hown : s.vm.findClass (ax_nm (M / 128)) = some mid.cls := by rw [← ax_m_cls hm]; exact hown0
  have nx : ∀ ls' st' n' sl' es' H' locs' cells' slots' LS', ax_S l sp bs tA D X L xs d nb sb M rest (pc + len) ls' st' n' sl' es' Q → ax_Sx sp bs tA D L xs nb sb n0 sl0 s n' sl' es' H' locs' cells' slots' → ls'.length = m.2.2.1 → ax_lr sp bs LS' ls' → W p l e R s mid args below meth c H' locs' cells' slots' QF (F0 mid (pc + len) LS' (st'.map (ax_v sp bs))) :=
    fun ls' st' n' sl' es' H' locs' cells' slots' LS' hk h1 h2 h3 => hk m hm hchk p e R s mid args below meth c n0 sl0 QF hC hE H' locs' cells' slots' LS' h1 h2 h3
  have nx0 : ∀ st', ax_S l sp bs tA D X L xs d nb sb M rest (pc + len) ls st' n sl es Q → W p l e R s mid args below meth c H locs cells slots QF (F0 mid (pc + len) LS (st'.map (ax_v sp bs))) := fun st' hk => nx _ _ _ _ _ _ _ _ _ _ hk hSx hll hLr
  have jm : ∀ (t : Int) st', ax_J (ax_S l sp bs tA D X L xs) d nb sb M t ls st' n sl es Q → W p l e R s mid args below meth c H locs cells slots QF (F0 mid t.toNat LS (st'.map (ax_v sp bs))) :=
    fun t st' hj => by
      obtain ⟨code', hb', hk⟩ := hj
      exact hk m hm (ax_blk_chk hm hb') p e R s mid args below meth c n0 sl0 QF hC hE H locs cells slots LS hSx hll hLr
  dsimp only [ax_enc] at henc
  split at henc
  · next hcond =>
    cases henc
    dsimp only [ax_I] at hF
    split at hF
    · next x st' =>
      have hpos : 0 ≤ ax_lookup (ps.map fun q => (q.1, (pc : Int) + q.2)).toList (pc + dflt) x.toInt := by
        refine ax_lookup_pos _ _ _ hcond.1 (fun q hq => ?_)
        rw [Array.toList_map] at hq
        obtain ⟨q0, hq0, rfl⟩ := List.mem_map.mp hq
        have h9 := Array.all_eq_true_iff_forall_mem.mp hcond.2.1 q0 (Array.mem_def.mpr hq0)
        simpa using h9
      have he : ax_lookup (ps.map fun q => (q.1, (pc : Int) + q.2)).toList (pc + dflt) x.toInt = pc + Op.lookupswitch.offset ps.toList dflt x.toInt := by
        rw [Array.toList_map]
        exact ax_lookup_eq pc dflt x.toInt ps.toList
      exact lv_lookup hx hb hdec hcond.2.2 rfl (by omega) (jm _ _ hF)
    · exact hF.elim
  · cases henc
set_option maxHeartbeats 1000000 in
theorem ax_copy : ax_Bt l sp bs tA D X L xs 1 := by
  intro k d nb sb M i len rest pc ls st n sl es Q m hm hdec hln henc hchk hF p e R s mid args below meth c n0 sl0 QF hC hE H locs cells slots LS hSx hll hLr hlku
  obtain ⟨hx, hb, hml, hret, hlk, hini, hown0, hts, hK, hfr, hlo, hnb, hsb, hsz, hscr⟩ := id hC
  have hown : s.vm.findClass (ax_nm (M / 128)) = some mid.cls := by rw [← ax_m_cls hm]; exact hown0
  have nx : ∀ ls' st' n' sl' es' H' locs' cells' slots' LS', ax_S l sp bs tA D X L xs d nb sb M rest (pc + len) ls' st' n' sl' es' Q → ax_Sx sp bs tA D L xs nb sb n0 sl0 s n' sl' es' H' locs' cells' slots' → ls'.length = m.2.2.1 → ax_lr sp bs LS' ls' → W p l e R s mid args below meth c H' locs' cells' slots' QF (F0 mid (pc + len) LS' (st'.map (ax_v sp bs))) :=
    fun ls' st' n' sl' es' H' locs' cells' slots' LS' hk h1 h2 h3 => hk m hm hchk p e R s mid args below meth c n0 sl0 QF hC hE H' locs' cells' slots' LS' h1 h2 h3
  have nx0 : ∀ st', ax_S l sp bs tA D X L xs d nb sb M rest (pc + len) ls st' n sl es Q → W p l e R s mid args below meth c H locs cells slots QF (F0 mid (pc + len) LS (st'.map (ax_v sp bs))) := fun st' hk => nx _ _ _ _ _ _ _ _ _ _ hk hSx hll hLr
  have h1 : 3 = len := hln.resolve_left (show ¬ (3 = 0) by decide)
  subst h1
  dsimp only [ax_enc] at henc
  rw [hlku] at henc
  cases henc
  have hw : Cond.methodLink (ax_nm (M / 128)) k (ax_yb 1) ∈ lw_tbl := ax_res_word hm hlku
  simp only [ax_I, ax_bi] at hF
  split at hF
  · next cv dp b spp a st' =>
    obtain ⟨hd1, hcat, han, hbn, h1, h2, h3, hF⟩ := hF
    split at hF
    · next n1 f n2 g ha hb' =>
      obtain ⟨h4, h5, hF⟩ := hF
      have he0 : (ax_ws sp bs tA (ax_al n) es)[a]? = some (bs + a, .inl (tA 0, n1, .inl f)) := by rw [ax_ws_at _ _ _ _ han, ha]; rfl
      have he1 : (ax_ws sp bs tA (ax_al n) es)[b]? = some (bs + b, .inl (tA 0, n2, .inl g)) := by rw [ax_ws_at _ _ _ _ hbn, hb']; rfl
      refine va_copyi hx hb (hml.trans (hll.symm.trans hLr.1.1.symm)) hown (hts _ (ax_Tb_in hw rfl)) (hts _ (ax_Tb_in ax_ucopy.1 rfl)) (hts _ (ax_Tb_in ax_ucopy.2.1 rfl)) (hts _ (ax_Tb_in ax_ucopy.2.2 rfl)) hK.1 hSx.2.2.2.2.1.1 (ax_ws_D sp bs tA (ax_al n) es) (ax_S_self hSx.2.2.2.2.2) a b 0 0 he0 he1 (ax_tys_at tA (t := 0) (by decide)) (ax_tys_at tA (t := 0) (by decide)) rfl h1 h2 h3 h4 h5 (fun _ _ => rfl) (by omega) ?_ hdec (fun H1 locs1 hP1 hD1 hS1 => ?_)
      · rw [ax_cat_map, show nativeFrameWords "java/lang/System" "arraycopy" 5 = 7 by decide]
        omega
      · refine ax_bound (fun hb1 => ?_)
        have hP1 : va_P D ax_cl (ax_ws sp bs tA (ax_al n) (ax_up es b (.inl (0, n2, .inl (va_cpy f g spp.toNatClampNeg dp.toNatClampNeg cv.toNatClampNeg))))) H1 := by
          rw [← ax_ws_set]
          exact hP1
        exact nx _ _ _ _ _ _ _ _ _ _ hF (ax_done hSx hP1 hS1 hb1 hsz (ax_up_scr _ hbn hSx.2.2.1 hscr)) hll hLr
    · next n1 f n2 g ha hb' =>
      obtain ⟨h4, h5, hF⟩ := hF
      have he0 : (ax_ws sp bs tA (ax_al n) es)[a]? = some (bs + a, .inl (tA 3, n1, .inr (.inl f))) := by rw [ax_ws_at _ _ _ _ han, ha]; rfl
      have he1 : (ax_ws sp bs tA (ax_al n) es)[b]? = some (bs + b, .inl (tA 3, n2, .inr (.inl g))) := by rw [ax_ws_at _ _ _ _ hbn, hb']; rfl
      refine va_copyl hx hb (hml.trans (hll.symm.trans hLr.1.1.symm)) hown (hts _ (ax_Tb_in hw rfl)) (hts _ (ax_Tb_in ax_ucopy.1 rfl)) (hts _ (ax_Tb_in ax_ucopy.2.1 rfl)) (hts _ (ax_Tb_in ax_ucopy.2.2 rfl)) hK.1 hSx.2.2.2.2.1.1 (ax_ws_D sp bs tA (ax_al n) es) (ax_S_self hSx.2.2.2.2.2) a b 3 3 he0 he1 (ax_tys_at tA (t := 3) (by decide)) (ax_tys_at tA (t := 3) (by decide)) rfl h1 h2 h3 h4 h5 (fun _ _ => rfl) (by omega) ?_ hdec (fun H1 locs1 hP1 hD1 hS1 => ?_)
      · rw [ax_cat_map, show nativeFrameWords "java/lang/System" "arraycopy" 5 = 7 by decide]
        omega
      · refine ax_bound (fun hb1 => ?_)
        have hP1 : va_P D ax_cl (ax_ws sp bs tA (ax_al n) (ax_up es b (.inl (3, n2, .inr (.inl (va_cpy f g spp.toNatClampNeg dp.toNatClampNeg cv.toNatClampNeg)))))) H1 := by
          rw [← ax_ws_set]
          exact hP1
        exact nx _ _ _ _ _ _ _ _ _ _ hF (ax_done hSx hP1 hS1 hb1 hsz (ax_up_scr _ hbn hSx.2.2.1 hscr)) hll hLr
    · exact hF.elim
  · exact hF.elim
end AXNEW
/-- what is known of the start, and stays -/
def ax_Xok (sp : Nat → Nat) (bs L : Nat) (xs : Nat → Int32) (X : State → Prop) : Prop :=
  (∀ (U : State) (g : JFrame) (mk : MethodId) (a : Array Value), X U → X (U.calling g mk a)) ∧ (∀ U U' : State, X U → U.WarmedH U'.vm → (∀ q, q < bs → U'.heap[q]? = U.heap[q]?) → X U') ∧ (∀ U : State, X U → va_X (sp 0) L xs U U.heap ∧ sp 0 < bs) ∧
  (∀ (o k : Nat) (v : Int) (U : State), (k, 7, v) ∈ ax_res o → X U → vk_R (ax_nm o) k ax_words (sp (UInt32.ofNat v.toNat).toNat) U) ∧ ∀ U : State, X U → va_AO "ShakingCourt$Bowl" U ∧ va_AO "ShakingCourt$Felt" U
theorem ax_step {l : Launch} {sp : Nat → Nat} {bs : Nat} {tA : Nat → ClassId} {D : va_G} {X : State → Prop} {L : Nat} {xs : Nat → Int32} (hX : ax_Xok sp bs L xs X) (hB2 : ax_Bt2 l sp bs tA D X L xs 2) (hB3 : ax_Bt2 l sp bs tA D X L xs 3) (hB4 : ax_Bt l sp bs tA D X L xs 4) (ri : Instr) : ax_St l sp bs tA D X L xs ri := by
  obtain ⟨hXc, hXw, hScr, hStr, hAO⟩ := hX
  cases ri
  case iadd => exact ax_st_iadd
  case isub => exact ax_st_isub
  case imul => exact ax_st_imul
  case idiv => exact ax_st_idiv
  case irem => exact ax_st_irem
  case ineg => exact ax_st_ineg
  case iand => exact ax_st_iand
  case ior => exact ax_st_ior
  case ixor => exact ax_st_ixor
  case ishl => exact ax_st_ishl
  case ishr => exact ax_st_ishr
  case iushr => exact ax_st_iushr
  case ladd => exact ax_st_ladd
  case lsub => exact ax_st_lsub
  case lmul => exact ax_st_lmul
  case ldiv => exact ax_st_ldiv
  case lrem => exact ax_st_lrem
  case land => exact ax_st_land
  case lor => exact ax_st_lor
  case lshl => exact ax_st_lshl
  case lshr => exact ax_st_lshr
  case lushr => exact ax_st_lushr
  case lcmp => exact ax_st_lcmp
  case i2l => exact ax_st_i2l
  case l2i => exact ax_st_l2i
  case i2b => exact ax_st_i2b
  case dup => exact ax_st_dup
  case dup2 => exact ax_st_dup2
  case pop => exact ax_st_pop
  case iaload => exact ax_st_iaload hScr
  case iastore => exact ax_st_iastore
  case baload => exact ax_st_baload
  case bastore => exact ax_st_bastore
  case laload => exact ax_st_laload
  case lastore => exact ax_st_lastore
  case aaload => exact ax_st_aaload
  case aastore => exact ax_st_aastore
  case arraylength => exact ax_st_arraylength hScr
  case ireturn => exact ax_st_ireturn
  case return_ => exact ax_st_return_
  case areturn => exact ax_st_areturn
  case iload k => exact ax_st_iload k
  case iload_n k => exact ax_st_iload_n k
  case lload k => exact ax_st_lload k
  case lload_n k => exact ax_st_lload_n k
  case aload k => exact ax_st_aload k
  case aload_n k => exact ax_st_aload_n k
  case istore k => exact ax_st_istore k
  case istore_n k => exact ax_st_istore_n k
  case lstore k => exact ax_st_lstore k
  case lstore_n k => exact ax_st_lstore_n k
  case astore k => exact ax_st_astore k
  case astore_n k => exact ax_st_astore_n k
  case iconst k => exact ax_st_iconst k
  case bipush k => exact ax_st_bipush k
  case sipush k => exact ax_st_sipush k
  case lconst k => exact ax_st_lconst k
  case ldc2_w k => exact ax_st_ldc2_w k
  case ldc_w k => exact ax_st_ldc_w k
  case goto k => exact ax_st_goto k
  case getfield k => exact ax_st_getfield k
  case new k => exact ax_st_new k
  case newarray k => exact ax_st_newarray k
  case iinc k v => exact ax_st_iinc k v
  case ifCond cd off => exact ax_st_ifCond cd off
  case if_icmp cd off => exact ax_st_if_icmp cd off
  case tableswitch a b c d => exact ax_st_tableswitch a b c d
  case lookupswitch a b => exact ax_st_lookupswitch a b
  case ldc k => exact ax_st_ldc hStr k
  case putfield k => exact ax_st_putfield ax_fd_own k
  case anewarray k => exact ax_st_anewarray hAO k
  case invokestatic k => exact ax_st_invokestatic hXc hXw ax_copy hB4 k
  case invokevirtual k => exact ax_st_invokevirtual hXc hXw hB2 hB3 k
  case invokespecial k => exact ax_st_invokespecial hXc hXw ax_none k
  all_goals
    intro d nb sb M i len rest pc ls st n sl es Q m hm hdec hln henc
    exact absurd henc (by intro h; cases h)
theorem ax_ck1_spec {o : Nat} {init : Bool} {bytes : ByteArray} {pc len : Nat} {i : Instr} (h : ax_ck1 o init bytes pc len i = true) : ∃ ri, decode bytes pc = .ok (ri, len) ∧ (ax_ln ri = 0 ∨ ax_ln ri = len) ∧ ax_enc o pc init ri = some i := by
  unfold ax_ck1 at h
  split at h
  · next ri l hd =>
    simp only [Bool.and_eq_true, decide_eq_true_eq] at h
    obtain ⟨⟨rfl, h2⟩, h3⟩ := h
    exact ⟨ri, hd, h2, h3⟩
  · cases h
/-- THE SMALL MACHINE IS RIGHT: what it comes to, the big one comes to -/
theorem ax_sound {l : Launch} {sp : Nat → Nat} {bs : Nat} {tA : Nat → ClassId} {D : va_G} {X : State → Prop} {L : Nat} {xs : Nat → Int32} (hX : ax_Xok sp bs L xs X) (hB2 : ax_Bt2 l sp bs tA D X L xs 2) (hB3 : ax_Bt2 l sp bs tA D X L xs 3) (hB4 : ax_Bt l sp bs tA D X L xs 4)
    {d nb sb M : Nat} {code : List (Nat × Instr)} {pc : Nat} {ls : ax_L} {st : List Value} {n sl : Nat} {es : ax_H} {Q : ax_Q} (h : ax_W d nb sb M code pc ls st n sl es Q) : ax_S l sp bs tA D X L xs d nb sb M code pc ls st n sl es Q := by
  refine h (ax_S l sp bs tA D X L xs) ?_
  intro d nb sb M code pc ls st n sl es Q hF m hm hchk p e R s mid args below meth c n0 sl0 QF hC hE H locs cells slots LS hSx hll hLr
  cases code with
  | nil =>
    obtain ⟨code', hb', hk⟩ := hF
    exact hk m hm (ax_blk_chk hm hb') p e R s mid args below meth c n0 sl0 QF hC hE H locs cells slots LS hSx hll hLr
  | cons a rest =>
    obtain ⟨len, i⟩ := a
    have hchk : (ax_ck1 (M / 128) (decide (m.1.name = "<init>")) m.2.1 pc len i && ax_chk (M / 128) (decide (m.1.name = "<init>")) m.2.1 (pc + len) rest) = true := hchk
    rw [Bool.and_eq_true] at hchk
    obtain ⟨ri, h1, h2, h3⟩ := ax_ck1_spec hchk.1
    exact ax_step hX hB2 hB3 hB4 ri d nb sb M i len rest pc ls st n sl es Q m hm h1 h2 h3 hchk.2 hF p e R s mid args below meth c n0 sl0 QF hC hE H locs cells slots LS hSx hll hLr
