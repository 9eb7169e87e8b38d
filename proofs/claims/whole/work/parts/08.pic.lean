/-! what the small machine's state is in the big one -/
def ax_v (sp : Nat → Nat) (bs : Nat) (v : Value) : Value := match v with
  | .ref k => .ref (bs + k)
  | .float j => .ref (sp j.toNat)
  | v => v
def ax_ar (bs : Nat) (a : vp_A) : vp_A := match a with
  | (n, .inr (.inr (.inr (.inr f)))) => (n, .inr (.inr (.inr (.inr fun i => (f i).map fun k => bs + k))))
  | a => a
def ax_en (sp : Nat → Nat) (bs : Nat) (tA : Nat → ClassId) (e : ax_E) : va_E := match e with
  | .inl (t, a) => .inl (tA t, ax_ar bs a)
  | .inr (c, fs) => .inr (c, fs.map (ax_v sp bs))
def ax_ws (sp : Nat → Nat) (bs : Nat) (tA : Nat → ClassId) (n : Nat) (es : ax_H) : va_W := (List.range n).map fun k => (bs + k, ax_en sp bs tA (es k))
def ax_fty : Nat → FieldType := fun t => match t with
  | 0 => .int
  | 1 => .byte
  | 2 => .boolean
  | 3 => .long
  | 4 => .object "ShakingCourt$Bowl"
  | _ => .object "ShakingCourt$Felt"
def ax_tys (tA : Nat → ClassId) : List (ClassId × FieldType) := (List.range 6).map fun t => (tA t, ax_fty t)
theorem ax_tys_at (tA : Nat → ClassId) {t : Nat} (h : t < 6) : (ax_tys tA)[t]? = some (tA t, ax_fty t) := by
  simp [ax_tys, h]
theorem ax_ws_at (sp : Nat → Nat) (bs : Nat) (tA : Nat → ClassId) {n q : Nat} (es : ax_H) (h : q < n) : (ax_ws sp bs tA n es)[q]? = some (bs + q, ax_en sp bs tA (es q)) := by
  simp [ax_ws, h]
theorem ax_ws_len (sp : Nat → Nat) (bs : Nat) (tA : Nat → ClassId) (n : Nat) (es : ax_H) : (ax_ws sp bs tA n es).length = n := by
  simp [ax_ws]
theorem ax_ws_set (sp : Nat → Nat) (bs : Nat) (tA : Nat → ClassId) {n q : Nat} (es : ax_H) (e : ax_E) : (ax_ws sp bs tA n es).set q (bs + q, ax_en sp bs tA e) = ax_ws sp bs tA n (ax_up es q e) := by
  apply List.ext_getElem?
  intro k
  by_cases hk : k < n
  · rw [ax_ws_at _ _ _ _ hk]
    by_cases hq : k = q
    · subst hq
      rw [List.getElem?_set_self (by rw [ax_ws_len]; exact hk)]
      simp [ax_up]
    · rw [List.getElem?_set_ne (Ne.symm hq), ax_ws_at _ _ _ _ hk]
      simp [ax_up, hq]
  · rw [List.getElem?_eq_none (by rw [List.length_set, ax_ws_len]; omega), List.getElem?_eq_none (by rw [ax_ws_len]; omega)]
theorem ax_ws_push (sp : Nat → Nat) (bs : Nat) (tA : Nat → ClassId) (n : Nat) (es : ax_H) (e : ax_E) : ax_ws sp bs tA n es ++ [(bs + n, ax_en sp bs tA e)] = ax_ws sp bs tA (n + 1) (ax_up es n e) := by
  unfold ax_ws
  rw [List.range_succ, List.map_append, List.map_cons, List.map_nil]
  congr 1
  · apply List.map_congr_left
    intro k hk
    have : k ≠ n := by have := List.mem_range.mp hk; omega
    simp [ax_up, this]
  · simp [ax_up]
theorem ax_ws_D (sp : Nat → Nat) (bs : Nat) (tA : Nat → ClassId) (n : Nat) (es : ax_H) : va_D (fun q => bs ≤ q) (ax_ws sp bs tA n es) := by
  have key : ∀ (k : Nat) (q : Nat × va_E), (ax_ws sp bs tA n es)[k]? = some q → q.1 = bs + k := by
    intro k q h
    have hk : k < n := by
      have := (List.getElem?_eq_some_iff.mp h).1
      rwa [ax_ws_len] at this
    rw [ax_ws_at _ _ _ _ hk] at h
    cases h
    rfl
  refine ⟨fun i j p q hi hj hpq => ?_, fun k q hk => ?_⟩
  · have h1 := key i p hi
    have h2 := key j q hj
    omega
  · show bs ≤ q.1
    have h1 := key k q hk
    omega
theorem ax_v_cat (sp : Nat → Nat) (bs : Nat) (v : Value) : (ax_v sp bs v).category = v.category := by
  cases v <;> rfl
theorem ax_cat_map (sp : Nat → Nat) (bs : Nat) (st : List Value) : ((st.map (ax_v sp bs)).map fun v => v.category).sum = ax_cat st := by
  unfold ax_cat
  rw [List.map_map]
  congr 1
  apply List.map_congr_left
  intro v _
  exact ax_v_cat sp bs v
/-! locals -/
def ax_as : Nat → ax_L → List (Nat × Value)
  | _, [] => []
  | i, none :: t => ax_as (i + 1) t
  | i, some v :: t => (i, v) :: ax_as (i + 1) t
theorem ax_as_mem : ∀ (ls : ax_L) (i j : Nat) (v : Value), (j, v) ∈ ax_as i ls ↔ ∃ k, j = i + k ∧ ls[k]? = some (some v)
  | [], i, j, v => by simp [ax_as]
  | none :: t, i, j, v => by
    rw [ax_as, ax_as_mem t (i + 1) j v]
    constructor
    · rintro ⟨k, h1, h2⟩
      exact ⟨k + 1, by omega, by simpa using h2⟩
    · rintro ⟨k, h1, h2⟩
      cases k with
      | zero => simp at h2
      | succ k => exact ⟨k, by omega, by simpa using h2⟩
  | some w :: t, i, j, v => by
    rw [ax_as, List.mem_cons, ax_as_mem t (i + 1) j v]
    constructor
    · rintro (h | ⟨k, h1, h2⟩)
      · cases h
        exact ⟨0, rfl, rfl⟩
      · exact ⟨k + 1, by omega, by simpa using h2⟩
    · rintro ⟨k, h1, h2⟩
      cases k with
      | zero =>
        simp at h2
        left
        rw [h1, h2]
        rfl
      | succ k => exact Or.inr ⟨k, by omega, by simpa using h2⟩
def ax_lr (sp : Nat → Nat) (bs : Nat) (LS : Array Slot) (ls : ax_L) : Prop := lv_has LS ls.length ((ax_as 0 ls).map fun q => (q.1, ax_v sp bs q.2)) ∧ ∀ (k : Nat) (b : UInt64), ls[k]? ≠ some (some (.double b))
theorem ax_lr_at {sp : Nat → Nat} {bs : Nat} {LS : Array Slot} {ls : ax_L} (h : ax_lr sp bs LS ls) {k : Nat} {v : Value} (hk : ls[k]? = some (some v)) : LS[k]? = some (.val (ax_v sp bs v)) := by
  have := h.1.2.2 (k, ax_v sp bs v) (List.mem_map.mpr ⟨(k, v), (ax_as_mem ls 0 k v).mpr ⟨k, by omega, hk⟩, rfl⟩)
  exact this
theorem ax_kl_at {o : Option Value} {w : Value} (h : ax_kl o = some w) : o = some w ∧ ¬ ∃ x, w = .long x := by
  cases o with
  | none => cases h
  | some y =>
    cases y with
    | long x => cases h
    | _ =>
      cases h
      exact ⟨rfl, fun ⟨x, hx⟩ => by cases hx⟩
theorem ax_k2_at {t : ax_L} {k : Nat} {w : Value} (h : (ax_k2 t)[k]? = some (some w)) : k ≠ 0 ∧ t[k]? = some (some w) := by
  cases t with
  | nil => simp [ax_k2] at h
  | cons o t =>
    cases k with
    | zero => simp [ax_k2] at h
    | succ k => exact ⟨by omega, by simpa [ax_k2] using h⟩
theorem ax_st1_len (ls : ax_L) : ∀ (i : Nat) (v : Value), (ax_st1 ls i v).length = ls.length := by
  induction ls with
  | nil => intro i v; rfl
  | cons o t ih =>
    intro i v
    match i with
    | 0 => rfl
    | 1 => simp [ax_st1, ih]
    | i + 2 => simp [ax_st1, ih]
theorem ax_st2_len (ls : ax_L) : ∀ (i : Nat) (v : Value), (ax_st2 ls i v).length = ls.length := by
  induction ls with
  | nil => intro i v; rfl
  | cons o t ih =>
    intro i v
    match i with
    | 0 => cases t <;> rfl
    | 1 => simp [ax_st2, ih]
    | i + 2 => simp [ax_st2, ih]
/-- what is in the locals behind a store: the new value, or an old one at another place, and no long just ahead of it -/
theorem ax_st1_at (ls : ax_L) : ∀ (i : Nat) (v : Value) (k : Nat) (w : Value), (ax_st1 ls i v)[k]? = some (some w) → (k = i ∧ w = v) ∨ (k ≠ i ∧ ls[k]? = some (some w) ∧ ¬ (k + 1 = i ∧ ∃ x, w = .long x)) := by
  induction ls with
  | nil => intro i v k w h; simp [ax_st1] at h
  | cons o t ih =>
    intro i v k w h
    match i with
    | 0 =>
      cases k with
      | zero => left; simp [ax_st1] at h; exact ⟨rfl, h.symm⟩
      | succ k => right; exact ⟨by omega, by simpa [ax_st1] using h, by omega⟩
    | 1 =>
      cases k with
      | zero =>
        simp only [ax_st1, List.getElem?_cons_zero, Option.some.injEq] at h
        obtain ⟨h1, h2⟩ := ax_kl_at h
        right
        exact ⟨by omega, by rw [h1]; rfl, fun ⟨_, z⟩ => h2 z⟩
      | succ k =>
        rcases ih 0 v k w (by simpa [ax_st1] using h) with ⟨h1, h2⟩ | ⟨h1, h2, h3⟩
        · left; exact ⟨by omega, h2⟩
        · right; exact ⟨by omega, by simpa using h2, by omega⟩
    | i + 2 =>
      cases k with
      | zero =>
        right
        exact ⟨by omega, by simpa [ax_st1] using h, by omega⟩
      | succ k =>
        rcases ih (i + 1) v k w (by simpa [ax_st1] using h) with ⟨h1, h2⟩ | ⟨h1, h2, h3⟩
        · left; exact ⟨by omega, h2⟩
        · right; exact ⟨by omega, by simpa using h2, fun ⟨z1, z2⟩ => h3 ⟨by omega, z2⟩⟩
theorem ax_st2_at (ls : ax_L) : ∀ (i : Nat) (v : Value) (k : Nat) (w : Value), (ax_st2 ls i v)[k]? = some (some w) → (k = i ∧ w = v) ∨ (k ≠ i ∧ k ≠ i + 1 ∧ ls[k]? = some (some w) ∧ ¬ (k + 1 = i ∧ ∃ x, w = .long x)) := by
  induction ls with
  | nil => intro i v k w h; simp [ax_st2] at h
  | cons o t ih =>
    intro i v k w h
    match i with
    | 0 =>
      cases k with
      | zero => left; simp [ax_st2] at h; exact ⟨rfl, h.symm⟩
      | succ k =>
        right
        have h : (ax_k2 t)[k]? = some (some w) := by simpa [ax_st2] using h
        obtain ⟨h1, h2⟩ := ax_k2_at h
        exact ⟨by omega, by omega, by simpa using h2, by omega⟩
    | 1 =>
      cases k with
      | zero =>
        simp only [ax_st2, List.getElem?_cons_zero, Option.some.injEq] at h
        obtain ⟨h1, h2⟩ := ax_kl_at h
        right
        exact ⟨by omega, by omega, by rw [h1]; rfl, fun ⟨_, z⟩ => h2 z⟩
      | succ k =>
        rcases ih 0 v k w (by simpa [ax_st2] using h) with ⟨h1, h2⟩ | ⟨h1, h2, h3, h4⟩
        · left; exact ⟨by omega, h2⟩
        · right; exact ⟨by omega, by omega, by simpa using h3, by omega⟩
    | i + 2 =>
      cases k with
      | zero =>
        right
        exact ⟨by omega, by omega, by simpa [ax_st2] using h, by omega⟩
      | succ k =>
        rcases ih (i + 1) v k w (by simpa [ax_st2] using h) with ⟨h1, h2⟩ | ⟨h1, h2, h3, h4⟩
        · left; exact ⟨by omega, h2⟩
        · right; exact ⟨by omega, by omega, by simpa using h3, fun ⟨z1, z2⟩ => h4 ⟨by omega, z2⟩⟩
theorem ax_v_long {sp : Nat → Nat} {bs : Nat} {v : Value} (h : (ax_v sp bs v).category = 2) (hd : ∀ b, v ≠ .double b) : ∃ x, v = .long x := by
  cases v with
  | long x => exact ⟨x, rfl⟩
  | double b => exact absurd rfl (hd b)
  | _ => cases h
theorem ax_lr_st1 {sp : Nat → Nat} {bs : Nat} {LS LS' : Array Slot} {ls : ax_L} {i : Nat} {v : Value} (h : ax_lr sp bs LS ls) (hv : ∀ b, v ≠ .double b) (h' : lv_has LS' ls.length ((i, ax_v sp bs v) :: ((ax_as 0 ls).map fun q => (q.1, ax_v sp bs q.2)).filter (fun q => !(q.1 == i) && !(q.1 + 1 == i && q.2.category == 2)))) : ax_lr sp bs LS' (ax_st1 ls i v) := by
  refine ⟨⟨by rw [ax_st1_len]; exact h'.1, h'.2.1, fun q hq => h'.2.2 q ?_⟩, fun k b hk => ?_⟩
  · obtain ⟨⟨k, w⟩, hk, rfl⟩ := List.mem_map.mp hq
    obtain ⟨k', e1, hk⟩ := (ax_as_mem _ 0 k w).mp hk
    have e1 : k = k' := by omega
    subst e1
    rcases ax_st1_at ls i v k w hk with ⟨rfl, rfl⟩ | ⟨h1, h2, h3⟩
    · exact List.mem_cons_self
    · refine List.mem_cons_of_mem _ (List.mem_filter.mpr ⟨List.mem_map.mpr ⟨(k, w), (ax_as_mem ls 0 k w).mpr ⟨k, by omega, h2⟩, rfl⟩, ?_⟩)
      simp only [Bool.and_eq_true, Bool.not_eq_true', beq_eq_false_iff_ne, ne_eq, Bool.and_eq_false_iff]
      refine ⟨h1, ?_⟩
      by_cases hc : (ax_v sp bs w).category = 2
      · left
        intro z
        exact h3 ⟨z, ax_v_long hc (fun b hb => h.2 k b (by rw [h2, hb]))⟩
      · right
        exact hc
  · rcases ax_st1_at ls i v k _ hk with ⟨-, h2⟩ | ⟨-, h2, -⟩
    · exact hv b h2.symm
    · exact h.2 k b h2
theorem ax_lr_st2 {sp : Nat → Nat} {bs : Nat} {LS LS' : Array Slot} {ls : ax_L} {i : Nat} {v : Value} (h : ax_lr sp bs LS ls) (hv : ∀ b, v ≠ .double b) (h' : lv_has LS' ls.length ((i, ax_v sp bs v) :: ((ax_as 0 ls).map fun q => (q.1, ax_v sp bs q.2)).filter (fun q => !(q.1 == i) && (!(q.1 == i + 1) && !(q.1 + 1 == i && q.2.category == 2))))) : ax_lr sp bs LS' (ax_st2 ls i v) := by
  refine ⟨⟨by rw [ax_st2_len]; exact h'.1, h'.2.1, fun q hq => h'.2.2 q ?_⟩, fun k b hk => ?_⟩
  · obtain ⟨⟨k, w⟩, hk, rfl⟩ := List.mem_map.mp hq
    obtain ⟨k', e1, hk⟩ := (ax_as_mem _ 0 k w).mp hk
    have e1 : k = k' := by omega
    subst e1
    rcases ax_st2_at ls i v k w hk with ⟨rfl, rfl⟩ | ⟨h1, h1', h2, h3⟩
    · exact List.mem_cons_self
    · refine List.mem_cons_of_mem _ (List.mem_filter.mpr ⟨List.mem_map.mpr ⟨(k, w), (ax_as_mem ls 0 k w).mpr ⟨k, by omega, h2⟩, rfl⟩, ?_⟩)
      simp only [Bool.and_eq_true, Bool.not_eq_true', beq_eq_false_iff_ne, ne_eq, Bool.and_eq_false_iff]
      refine ⟨h1, h1', ?_⟩
      by_cases hc : (ax_v sp bs w).category = 2
      · left
        intro z
        exact h3 ⟨z, ax_v_long hc (fun b hb => h.2 k b (by rw [h2, hb]))⟩
      · right
        exact hc
  · rcases ax_st2_at ls i v k _ hk with ⟨-, h2⟩ | ⟨-, -, h2, -⟩
    · exact hv b h2.symm
    · exact h.2 k b h2
/-! the entry: the arguments in the locals -/
theorem ax_ent_at : ∀ (vs : List Value) (sp : Nat → Nat) (bs i k : Nat) (w : Value), (ax_ent vs)[k]? = some (some w) → (i + k, ax_v sp bs w) ∈ lv_args i (vs.map (ax_v sp bs))
  | [], sp, bs, i, k, w, h => by simp [ax_ent] at h
  | v :: vs, sp, bs, i, k, w, h => by
    have one : ∀ (hc : (ax_v sp bs v).category = 1) (he : ax_ent (v :: vs) = some v :: ax_ent vs), (i + k, ax_v sp bs w) ∈ lv_args i ((v :: vs).map (ax_v sp bs)) := by
      intro hc he
      rw [he] at h
      simp only [List.map_cons, lv_args, hc]
      cases k with
      | zero =>
        simp at h
        rw [h]
        exact List.mem_cons_self
      | succ k =>
        refine List.mem_cons_of_mem _ ?_
        have := ax_ent_at vs sp bs (i + 1) k w (by simpa using h)
        rw [show i + (k + 1) = i + 1 + k by omega]
        simpa using this
    have two : ∀ (hc : (ax_v sp bs v).category = 2) (o : Option Value) (ho : ∀ x, o = some x → x = v) (he : ax_ent (v :: vs) = o :: none :: ax_ent vs), (i + k, ax_v sp bs w) ∈ lv_args i ((v :: vs).map (ax_v sp bs)) := by
      intro hc o ho he
      rw [he] at h
      simp only [List.map_cons, lv_args, hc]
      cases k with
      | zero =>
        simp at h
        rw [ho w h]
        exact List.mem_cons_self
      | succ k =>
        cases k with
        | zero => simp at h
        | succ k =>
          refine List.mem_cons_of_mem _ ?_
          have := ax_ent_at vs sp bs (i + 2) k w (by simpa using h)
          rw [show i + (k + 1 + 1) = i + 2 + k by omega]
          simpa using this
    cases v with
    | long x => exact two rfl (some (.long x)) (fun y hy => by cases hy; rfl) rfl
    | double x => exact two rfl none (fun y hy => by cases hy) rfl
    | int x => exact one rfl rfl
    | float x => exact one rfl rfl
    | null => exact one rfl rfl
    | ref x => exact one rfl rfl
    | retAddr x => exact one rfl rfl
theorem ax_ent_nd : ∀ (vs : List Value) (k : Nat) (b : UInt64), (ax_ent vs)[k]? ≠ some (some (.double b))
  | [], k, b => by simp [ax_ent]
  | v :: vs, k, b => by
    have ih := ax_ent_nd vs
    cases v <;> simp only [ax_ent] <;> (cases k with
      | zero => simp
      | succ k => first | (simpa using ih k b) | (cases k with
        | zero => simp
        | succ k => simpa using ih k b))
theorem ax_ent_len : ∀ (vs : List Value) (sp : Nat → Nat) (bs : Nat), (lg_sl (vs.map (ax_v sp bs))).length = (ax_ent vs).length
  | [], sp, bs => rfl
  | v :: vs, sp, bs => by
    have ih := ax_ent_len vs sp bs
    have e : lg_sl ((v :: vs).map (ax_v sp bs)) = (if (ax_v sp bs v).category = 2 then [Slot.val (ax_v sp bs v), Slot.second] else [Slot.val (ax_v sp bs v)]) ++ lg_sl (vs.map (ax_v sp bs)) := rfl
    rw [e, List.length_append, ih]
    cases v <;> simp [ax_v, Value.category, ax_ent] <;> omega
theorem ax_lr_entry (sp : Nat → Nat) (bs : Nat) (vs : List Value) {n : Nat} (h : (ax_ent vs).length ≤ n) : ax_lr sp bs ((lg_sl (vs.map (ax_v sp bs)) ++ List.replicate (n - (lg_sl (vs.map (ax_v sp bs))).length) Slot.unset).toArray) (ax_pad (ax_ent vs) n) := by
  have hl : (ax_pad (ax_ent vs) n).length = n := by simp [ax_pad]; omega
  have hE := lv_entry (vs.map (ax_v sp bs)) (n := n) (by rw [ax_ent_len]; exact h)
  have old : ∀ (k : Nat) (w : Value), (ax_pad (ax_ent vs) n)[k]? = some (some w) → (ax_ent vs)[k]? = some (some w) := by
    intro k w hk
    unfold ax_pad at hk
    by_cases hlt : k < (ax_ent vs).length
    · rwa [List.getElem?_append_left hlt] at hk
    · rw [List.getElem?_append_right (by omega), List.getElem?_replicate] at hk
      split at hk <;> cases hk
  refine ⟨⟨by rw [hl]; exact hE.1, hE.2.1, fun q hq => hE.2.2 q ?_⟩, fun k b hk => ax_ent_nd vs k b (old k _ hk)⟩
  obtain ⟨⟨k, w⟩, hk, rfl⟩ := List.mem_map.mp hq
  obtain ⟨k', e1, hk⟩ := (ax_as_mem _ 0 k w).mp hk
  have e1 : k = k' := by omega
  subst e1
  have := ax_ent_at vs sp bs 0 k w (old k w hk)
  simpa using this
