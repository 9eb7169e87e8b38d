/-! a law read, on both sides -/
def zF4 (c : List Int32) (x0 x1 x2 x3 : Int32) : Int32 := kl_val (zkf (kl_g (fun _ => 0) x0 x1 x2 x3) c (0, fun _ => 0))
theorem ztake {c : List Int32} {m : Nat} (h : m < c.length) : c.take (m + 1) = c.take m ++ [c.getD m 0] := by
  rw [List.take_succ, List.getD_eq_getElem?_getD, List.getElem?_eq_getElem h]
  rfl
theorem kl_run_zkf {g code : Nat → Int32} {a : Nat} {s : Nat → Int32} {c : List Int32} (hc : ∀ i, i < c.length → code (a + i) = c.getD i 0) : ∀ m, m ≤ c.length → kl_run g code a s m = zkf g (c.take m) (0, s)
  | 0, _ => by
    rw [kl_run, List.take_zero]
    rfl
  | m + 1, hm => by
    rw [kl_run, kl_run_zkf hc m (by omega), hc m (by omega), ztake (by omega), zkf_app]
    rfl
theorem mo_run_zmf {g op ar : Nat → Int32} {a : Nat} {s : Nat → Int32} {c : List Int32} (hc : ∀ i, i < c.length → op (a + i) = zop (c.getD i 0) ∧ ar (a + i) = zar (c.getD i 0)) : ∀ m, m ≤ c.length → mo_run g op ar a s m = zmf g (c.take m) (0, s)
  | 0, _ => by
    rw [mo_run, List.take_zero]
    rfl
  | m + 1, hm => by
    rw [mo_run, mo_run_zmf hc m (by omega), (hc m (by omega)).1, (hc m (by omega)).2, ztake (by omega), zmf_app]
    rfl
theorem zgood_at {g : Nat → Int32} : ∀ (c : List Int32) (ms : Nat × (Nat → Int32)) (m : Nat), zgood g c ms → m < c.length → mo_good (zop (c.getD m 0)) (zar (c.getD m 0)) (zmf g (c.take m) ms).1
  | [], ms, m, _, hm => absurd hm (Nat.not_lt_zero m)
  | x :: c, ms, 0, h, _ => h.1
  | x :: c, ms, m + 1, h, hm => by
    have := zgood_at c _ m h.2 (by rw [List.length_cons] at hm; omega)
    exact this
theorem kl_g_at (g : Nat → Int32) (x0 x1 x2 x3 : Int32) : kl_g g x0 x1 x2 x3 0 = x0 ∧ kl_g g x0 x1 x2 x3 1 = x1 ∧ kl_g g x0 x1 x2 x3 2 = x2 ∧ kl_g g x0 x1 x2 x3 3 = x3 := by
  unfold kl_g
  refine ⟨?_, ?_, ?_, ?_⟩
  · rw [upd_ne _ _ (by decide), upd_ne _ _ (by decide), upd_ne _ _ (by decide), upd_same]
  · rw [upd_ne _ _ (by decide), upd_ne _ _ (by decide), upd_same]
  · rw [upd_ne _ _ (by decide), upd_same]
  · rw [upd_same]
theorem zgl_4 {h : Bool} {g g' : Nat → Int32} (h0 : g 0 = g' 0) (h1 : g 1 = g' 1) (h2 : g 2 = g' 2) (h3 : h = true → g 3 = g' 3) : zgl h g g' := by
  intro i hi hh
  have : i = 0 ∨ i = 1 ∨ i = 2 ∨ i = 3 := by omega
  rcases this with e | e | e | e <;> subst e
  · exact h0
  · exact h1
  · exact h2
  · exact h3 (hh rfl)
theorem kl_val_1 {s : Nat → Int32} {v : Int32} {r : Nat × (Nat → Int32)} (h : zto 0 s v r) : kl_val r = kx_max 0 (kx_min 99 v) := by
  unfold kl_val
  rw [if_pos (by rw [h.1]; decide), h.2.2]
theorem zF4_V {h : Bool} {H : Nat} {c : List Int32} {V : (Nat → Int32) → Int32} (hH : H ≤ 32) (h1 : ∀ g g', zgl h g g' → V g = V g') (h2 : zKl H c V) (g : Nat → Int32) (x0 x1 x2 x3 : Int32) (e0 : g 0 = x0) (e1 : g 1 = x1) (e2 : g 2 = x2) (e3 : h = true → g 3 = x3) : zF4 c x0 x1 x2 x3 = kx_max 0 (kx_min 99 (V g)) := by
  unfold zF4
  rw [kl_val_1 (h2 _ 0 (fun _ => 0) (by omega))]
  obtain ⟨k0, k1, k2, k3⟩ := kl_g_at (fun _ => 0) x0 x1 x2 x3
  rw [h1 _ g (zgl_4 (by rw [k0, e0]) (by rw [k1, e1]) (by rw [k2, e2]) (fun z => by rw [k3, e3 z]))]
theorem zF4_kl {h : Bool} {H : Nat} {c : List Int32} (hH : H ≤ 32) (hc : zVal h H c) {code : Nat → Int32} {a : Nat} (hcode : ∀ i, i < c.length → code (a + i) = c.getD i 0) (hb : a + c.length ≤ 1000) : kl_ok code a (a + c.length) (zF4 c) := by
  obtain ⟨V, h1, h2, h3, h4⟩ := hc
  refine ⟨by omega, hb, fun s g x0 x1 x2 x3 => ?_⟩
  obtain ⟨k0, k1, k2, k3⟩ := kl_g_at g x0 x1 x2 x3
  rw [Nat.add_sub_cancel_left, kl_run_zkf hcode _ (Nat.le_refl _), List.take_length, kl_val_1 (h2 _ 0 s (by omega)), zF4_V hH h1 h2 (kl_g g x0 x1 x2 x3) x0 x1 x2 x3 k0 k1 k2 (fun _ => k3)]
theorem zF4_ml {h : Bool} {H : Nat} {c : List Int32} (hH : H ≤ 32) (hc : zVal h H c) {op ar : Nat → Int32} {a : Nat} (hcode : ∀ i, i < c.length → op (a + i) = zop (c.getD i 0) ∧ ar (a + i) = zar (c.getD i 0)) (hl : c.length ≤ 1000) (hb : a + c.length < 1100) (he : op (a + c.length) = 0) {x : (Nat → Int32) → Int32} (hx : h = true → ∀ g, x g = g 3) : ml_ok op ar a (fun g => zF4 c (g 0) (g 1) (g 2) (x g)) := by
  obtain ⟨V, h1, h2, h3, h4⟩ := hc
  refine ⟨c.length, hb, he, fun g s m hm => ?_, fun g s => ?_⟩
  · rw [(hcode m hm).1, (hcode m hm).2, mo_run_zmf hcode m (by omega)]
    exact zgood_at c (0, s) m (h3 g 0 s (by omega)).2 hm
  · rw [mo_run_zmf hcode _ (Nat.le_refl _), List.take_length, (h3 g 0 s (by omega)).1.2.2]
    exact (zF4_V hH h1 h2 g _ _ _ _ rfl rfl rfl (fun z => (hx z g).symm)).symm
theorem zF4_1 (x0 x1 x2 x3 : Int32) : zF4 [1] x0 x1 x2 x3 = 1 := by
  unfold zF4
  show kl_val (kl_step _ 1 (0, fun _ => 0)) = 1
  unfold kl_step
  rw [if_pos ⟨Or.inl (by decide), by decide⟩, show kl_isF 1 = false by decide]
  unfold kl_val
  rw [if_pos (by show 0 < 0 + 1; decide)]
  show kx_max 0 (kx_min 99 (upd (fun _ => 0) 0 1 0)) = 1
  rw [upd_same]
  decide
theorem zF4_20 (x0 x1 x2 x3 : Int32) : zF4 [zneg 20] x0 x1 x2 x3 = kx_max 0 (kx_min 99 x0) := by
  obtain ⟨k0, k1, k2, k3⟩ := kl_g_at (fun _ => 0) x0 x1 x2 x3
  unfold zF4
  show kl_val (kl_step _ (zneg 20) (0, fun _ => 0)) = _
  unfold kl_step
  rw [show kl_isF (zneg 20) = true by decide, if_pos ⟨Or.inr rfl, by decide⟩, if_pos rfl, show ((zneg 20 ^^^ -1) - 20).toNatClampNeg = 0 by decide, k0]
  unfold kl_val
  rw [if_pos (by show 0 < 0 + 1; decide)]
  show kx_max 0 (kx_min 99 (upd (fun _ => 0) 0 x0 0)) = _
  rw [upd_same]
theorem zSet_ok {t : zTp} {d : zDf} (h : zdok t d) : zVal false 24 (zSet d).2.2.2.2.1 ∧ zVal true 24 (zSet d).2.2.2.2.2 := by
  obtain ⟨-, -, -, -, h5, h6⟩ := h
  constructor
  · show zVal false 24 (if d.2.2.2.1.2.2.1 = true then d.2.2.2.2.1 else [1])
    split
    · next e =>
      obtain ⟨a, r, h1, h2⟩ := h5 e
      rw [h2]
      exact zVal_E h1
    · exact zVal_num (v := 1) (by decide) (by decide)
  · show zVal true 24 (if d.2.2.2.1.2.2.2 = true then d.2.2.2.2.2 else [zneg 20])
    split
    · next e =>
      obtain ⟨a, r, h1, h2⟩ := h6 e
      rw [h2]
      exact zVal_E h1
    · exact zVal_fact (by decide) (by decide) (fun z => by cases z)
theorem zCourt_ok {t : zTp} {d : zDf} (h : zCourt t = .inr d) : ∃ d0, d = zSet d0 ∧ zdok t d0 := by
  unfold zCourt at h
  split at h
  · cases h
  · next d0 hd =>
    cases h
    exact ⟨d0, rfl, zLines_ok _ _ _ (zD0_ok t) hd⟩
