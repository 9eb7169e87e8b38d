/-! the law's walk out of the small machine's -/
theorem ax_known {s : State} {args : Array Value} (hts : ∀ w ∈ lw_tbl, w.before args s = true) (hE : Cond.instantiable "java/util/NoSuchElementException" 6 ∈ lw_tbl) : ∀ c : Nat, ∃ (cC : ClassId) (iS : Nat → Nat), ∀ q : vw_C, ax_cl[c]? = some q → u_Kn s q.1 q.2.1 q.2.2 cC iS := by
  intro c
  cases hq : ax_cl[c]? with
  | none => exact ⟨0, fun _ => 0, fun q h => by cases h⟩
  | some q =>
    by_cases h12 : c = 12
    · subst h12
      cases hq
      obtain ⟨cC, iS, h⟩ := u_known (C := "java/util/NoSuchElementException") (T := ax_T0) (N := 0) hts (fun w hw => by cases hw) (hts _ hE)
      exact ⟨cC, iS, fun q h' => by cases h'; exact h⟩
    · have hok := ax_cl_ok c q hq h12
      obtain ⟨cC, iS, h⟩ := u_known (C := q.1) (T := q.2.1) (N := q.2.2) hts hok.1 (hts _ hok.2.2.2.1)
      exact ⟨cC, iS, fun q' h' => by cases h'; exact h⟩
theorem ax_arr_prim {s : State} {args : Array Value} {ty : FieldType} (hp : ∀ C, ty ≠ .object C) (h : (Cond.arrayClass ty).before args s = true) : ∃ cA : ClassId, ArrOfT s cA ty ∧ va_RA s cA ty := by
  obtain ⟨cA, kA, comp, h1, h2, h3⟩ := Cond.arrayClass_spec h
  refine ⟨cA, fun n z => ⟨fun k h => (by cases h), kA, h2, comp, h3⟩, ?_⟩
  cases ty with
  | object C => exact absurd rfl (hp C)
  | _ => exact h1
theorem ax_arr_obj {s : State} {C : String} (h : va_AO C s) : ∃ cA : ClassId, ArrOfT s cA (.object C) ∧ va_RA s cA (.object C) := by
  obtain ⟨comp, c, k, h1, h2, h3, h4, h5⟩ := Cond.arrayOver_spec h
  exact ⟨c, fun N z => ⟨(fun k h => by cases h), k, h3, comp, h4⟩, k, comp, h3, h4, h1, h5⟩
/-- what is known of the start, with Y: what more is wanted of it -/
def ax_X0 (b L : Nat) (xs : Nat → Int32) (bs q1 : Nat) (Y : State → Prop) (U : State) : Prop := va_X b L xs U U.heap ∧ b < bs ∧ vk_R "ShakingCourt$Tokens" 71 ax_words q1 U ∧ va_AO "ShakingCourt$Bowl" U ∧ va_AO "ShakingCourt$Felt" U ∧ Y U
def ax_sp (b q1 : Nat) : Nat → Nat := fun j => if j = 0 then b else q1
theorem ax_res7 : ∀ o k v, (k, 7, v) ∈ ax_res o → ax_nm o = "ShakingCourt$Tokens" ∧ k = 71 ∧ v = 1 := by
  have h : (List.range 16).all (fun o => (ax_res o).all fun r => !(r.2.1 == 7) || (decide (ax_nm o = "ShakingCourt$Tokens") && decide (r.1 = 71) && decide (r.2.2 = 1))) = true := by decide +kernel
  intro o k v hm
  have h16 : ∃ o', o' < 16 ∧ ax_res o = ax_res o' ∧ ax_nm o = ax_nm o' := by
    by_cases ho : o < 16
    · exact ⟨o, ho, rfl, rfl⟩
    · refine ⟨15, by decide, ?_, ?_⟩
      · match o, ho with
        | o + 16, _ => rfl
      · match o, ho with
        | o + 16, _ => rfl
  obtain ⟨o', ho', e1, e2⟩ := h16
  rw [e1] at hm
  have h1 := List.all_eq_true.mp (List.all_eq_true.mp h o' (List.mem_range.mpr ho')) _ hm
  simp at h1
  rw [e2]
  exact ⟨h1.1.1, h1.1.2, h1.2⟩
theorem ax_X0_ok {b L : Nat} {xs : Nat → Int32} {bs q1 : Nat} {Y : State → Prop} (hY1 : ∀ (U : State) (g : JFrame) (mk : MethodId) (a : Array Value), Y U → Y (U.calling g mk a)) (hY2 : ∀ U U' : State, Y U → U.WarmedH U'.vm → (∀ q, q < bs → U'.heap[q]? = U.heap[q]?) → Y U') : ax_Xok (ax_sp b q1) bs L xs (ax_X0 b L xs bs q1 Y) := by
  refine ⟨?_, ?_, ?_, ?_, ?_⟩
  · rintro U g mk a ⟨h1, h2, h3, h4, h5, h6⟩
    exact ⟨va_X.moved (u := U) (U := U.calling g mk a) (Vm.Alike.refl U.vm) h1, h2, vk_R.same (u := U) rfl h3, va_AO.moved (u := U) (U := U.calling g mk a) (Vm.Alike.refl U.vm) h4, va_AO.moved (u := U) (U := U.calling g mk a) (Vm.Alike.refl U.vm) h5, hY1 U g mk a h6⟩
  · rintro U U' ⟨h1, h2, h3, h4, h5, h6⟩ hW hq
    exact ⟨(h1.moved hW.alike).kept (hq b h2), h2, vk_R.warm hW h3, va_AO.moved hW.alike h4, va_AO.moved hW.alike h5, hY2 U U' h6 hW hq⟩
  · rintro U ⟨h1, h2, -⟩
    exact ⟨h1, h2⟩
  · rintro o k v U hm ⟨-, -, h3, -⟩
    obtain ⟨e1, rfl, rfl⟩ := ax_res7 o k v hm
    rw [e1]
    exact h3
  · rintro U ⟨-, -, -, h4, h5, -⟩
    exact ⟨h4, h5⟩
set_option maxRecDepth 100000 in
theorem ax_uexc : Cond.instantiable "java/util/NoSuchElementException" 6 ∈ lw_tbl := List.mem_of_getElem? (i := 1238) rfl
/-- THE LAW'S WALK, out of a run of the small machine (open: the string constant's place, the builtins) -/
theorem ax_top_open {p : Program} {e : Env} {s : State} {m : MethodId} {below : List Frame} {meth : Method} {c : Code} (l : Launch) {b L : Nat} {xs : Nat → Int32} (C0 : lw_At p s m meth c b L xs) {Y : State → Prop} {q1 : Nat} (hq1 : vk_R "ShakingCourt$Tokens" 71 ax_words q1 s) (hYs : Y s)
    (hY1 : ∀ (U : State) (g : JFrame) (mk : MethodId) (a : Array Value), Y U → Y (U.calling g mk a)) (hY2 : ∀ U U' : State, Y U → U.WarmedH U'.vm → (∀ q, q < s.heap.size → U'.heap[q]? = U.heap[q]?) → Y U')
    (hB : ∀ (tA : Nat → ClassId) (D : va_G), ax_Bt2 l (ax_sp b q1) s.heap.size tA D (ax_X0 b L xs s.heap.size q1 Y) L xs 2 ∧ ax_Bt2 l (ax_sp b q1) s.heap.size tA D (ax_X0 b L xs s.heap.size q1 Y) L xs 3 ∧ ax_Bt l (ax_sp b q1) s.heap.size tA D (ax_X0 b L xs s.heap.size q1 Y) L xs 4)
    (hrun : ∀ es : ax_H, es ax_scr = .inl (0, L, .inl xs) → ∃ code0, ax_blk 1536 0 = some code0 ∧ ax_W 1300 601024 7293034 1536 code0 0 [some (.float 0), none, none, none, none, none, none] [] 0 0 es (fun r _ _ _ => r = some (.int 1))) :
    W p l e room_1 s m #[Value.ref b] below meth c s.heap [] 0 0 (lw_Z below #[Value.ref b] s) (entryFrame m ([Value.ref b] : List Value).toArray 7) := by
  obtain ⟨hx, hb, hr, hml, hown, hts, hX, hbl, hlocks, hgv⟩ := C0
  obtain ⟨dC, hdC⟩ := Classical.axiomOfChoice (ax_known hts ax_uexc)
  obtain ⟨dI, hdI⟩ := Classical.axiomOfChoice hdC
  have hAO1 : va_AO "ShakingCourt$Bowl" s := va_AO.of (hts _ ax_uo_0)
  have hAO2 : va_AO "ShakingCourt$Felt" s := va_AO.of (hts _ ax_uo_2)
  have hT : ∀ t : Nat, ∃ cA : ClassId, t < 6 → ArrOfT s cA (ax_fty t) ∧ va_RA s cA (ax_fty t) := by
    intro t
    match t with
    | 0 => obtain ⟨cA, h⟩ := ax_arr_prim (ty := .int) (fun C h => by cases h) (hts _ ax_ua_int); exact ⟨cA, fun _ => h⟩
    | 1 => obtain ⟨cA, h⟩ := ax_arr_prim (ty := .byte) (fun C h => by cases h) (hts _ ax_ua_byte); exact ⟨cA, fun _ => h⟩
    | 2 => obtain ⟨cA, h⟩ := ax_arr_prim (ty := .boolean) (fun C h => by cases h) (hts _ ax_ua_boolean); exact ⟨cA, fun _ => h⟩
    | 3 => obtain ⟨cA, h⟩ := ax_arr_prim (ty := .long) (fun C h => by cases h) (hts _ ax_ua_long); exact ⟨cA, fun _ => h⟩
    | 4 => obtain ⟨cA, h⟩ := ax_arr_obj hAO1; exact ⟨cA, fun _ => h⟩
    | 5 => obtain ⟨cA, h⟩ := ax_arr_obj hAO2; exact ⟨cA, fun _ => h⟩
    | t + 6 => exact ⟨0, fun h => absurd h (by omega)⟩
  obtain ⟨tA, htA⟩ := Classical.axiomOfChoice hT
  have hKn : ax_Kn tA (dC, dI) (ax_X0 b L xs s.heap.size q1 Y) s := by
    refine ⟨⟨fun c q hq => hdI c q hq, fun k q hk => ?_⟩, fun a i x h hm => va_Nw.of rfl (hts _ hm), hX, hbl, hq1, hAO1, hAO2, hYs⟩
    have hk6 : k < 6 := by
      have := (List.getElem?_eq_some_iff.mp hk).1
      simpa [ax_tys] using this
    rw [ax_tys_at tA hk6] at hk
    cases hk
    exact htA k hk6
  have hTb : ∀ w ∈ ax_Tb, w.before #[Value.ref b] s = true := fun w hw => hts w (List.mem_filter.mp hw).1
  obtain ⟨code0, hblk, hW⟩ := hrun (fun _ => .inl (0, L, .inl xs)) rfl
  have hS := ax_sound (ax_X0_ok hY1 hY2) (hB tA (dC, dI)).1 (hB tA (dC, dI)).2.1 (hB tA (dC, dI)).2.2 hW
  have hm : ax_m 1536 = some ax_m_12_0 := rfl
  have hC : ax_Cx s.heap.size tA (dC, dI) (ax_X0 b L xs s.heap.size q1 Y) 1300 601024 7293034 ax_m_12_0 p room_1 s m #[Value.ref b] meth c 0 0 :=
    ⟨hx, hb, hml, hr, hlocks, fun h => absurd h (by decide), hown, hTb, hKn, Nat.le_of_ble_eq_true rfl, Nat.le_of_ble_eq_true rfl, rfl, rfl, ⟨Nat.le_of_eq rfl, fun _ => rfl⟩, Nat.le_of_ble_eq_true rfl⟩
  rw [lg_entry_eq]
  refine hS ax_m_12_0 hm (ax_blk_chk hm hblk) p e room_1 s m #[Value.ref b] below meth c 0 0 (lw_Z below #[Value.ref b] s) hC ?_ s.heap [] 0 0 _ ⟨rfl, rfl, Nat.zero_le _, Nat.zero_le _, ⟨?_, ⟨Nat.le_of_eq rfl, fun _ => rfl⟩, rfl⟩, va_S.rf⟩ rfl (ax_lr_entry (ax_sp b q1) s.heap.size [.float 0] (n := 7) (by decide))
  · intro r n' sl' es' H' locs' cells' slots' pc' LS' hR hrok hSx hdec
    subst hR
    obtain ⟨a1, a2, a3, a4, a5, a6⟩ := hSx
    refine va_forget (fun q hq => a6.2.2 q hq) ?_
    refine W.widen (k := 601024) (n := 7293034) (by omega) (by omega) ?_
    exact lw_ret hx hb hr hlocks hdec
  · intro k q hk
    simp [ax_ws, ax_al] at hk
