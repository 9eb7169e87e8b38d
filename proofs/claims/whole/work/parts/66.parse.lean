/-! how an E is read: a fault (its kind, its token), or the token behind it and its code -/
abbrev zR : Type := (Nat × Nat) ⊕ (Nat × List Int32)
def zstart (h : Bool) (k : Nat) : Bool := decide (k = 25 ∨ k = 17 ∨ k = 20 ∨ k = 21 ∨ k = 22 ∨ k = 40) || (decide (k = 23) && h)
def zlev (k : Nat) : Nat := if k = 18 ∨ k = 19 then 0 else if k = 60 ∨ k = 61 then 1 else if k = 43 ∨ k = 45 then 2 else if k = 42 then 3 else 9
def zneg (k : Nat) : Int32 := nI k ^^^ -1
def zlp (t : zTp) (P : Nat → zR) (l : Nat) : Nat → Nat → List Int32 → zR
  | 0, a, c => .inr (a, c)
  | f + 1, a, c => if zlev (zkd t a) = l then (match P (a + 1) with
    | .inl e => .inl e
    | .inr r => zlp t P l f r.1 (c ++ (r.2 ++ [zneg (zkd t a)]))) else .inr (a, c)
def zlv (t : zTp) (P : Nat → zR) (l f a : Nat) : zR := match P a with
  | .inl e => .inl e
  | .inr r => zlp t P l f r.1 r.2
def zfu (l : Nat) : Nat := if l = 1 then 1 else 1000
/-- the levels above a part -/
def zLv (t : zTp) (P : Nat → zR) : Nat → Nat → zR
  | 0 => P
  | m + 1 => zlv t (zLv t P m) (3 - m) (zfu (3 - m))
def zP (t : zTp) (h : Bool) : Nat → Nat → zR
  | 0, a => if zstart h (zkd t a) = true then .inl (5, a) else .inl (1, a)
  | e + 1, a => if zstart h (zkd t a) = true then
      (if zkd t a = 40 then (match zLv t (zP t h e) 4 (a + 1) with
        | .inl x => .inl x
        | .inr r => if zkd t r.1 = 41 then .inr (r.1 + 1, r.2) else .inl (1, r.1))
      else if zkd t a = 17 then (match zP t h e (a + 1) with
        | .inl x => .inl x
        | .inr r => .inr (r.1, r.2 ++ [zneg 17]))
      else if zkd t a = 25 then .inr (a + 1, [nI (znb t a)]) else .inr (a + 1, [zneg (zkd t a)]))
    else .inl (1, a)
/-- what is read takes as many tokens as it makes signs, none of them the end; a fault is no further off than the end -/
def zgo (t : zTp) (P : Nat → zR) : Prop := ∀ a, (∀ r, P a = .inr r → a < r.1 ∧ r.2.length ≤ r.1 - a ∧ ∀ b, a ≤ b → b < r.1 → ¬ zkd t b = 26) ∧ ∀ x, P a = .inl x → (x.1 = 1 ∨ x.1 = 5) ∧ a ≤ x.2 ∧ ∀ b, a ≤ b → b < x.2 → ¬ zkd t b = 26
theorem zlev_26 {k l : Nat} (hl : l < 4) (h : zlev k = l) : ¬ k = 26 := fun z => by
  rw [z] at h
  have : zlev 26 = 9 := rfl
  omega
theorem zlp_go {t : zTp} {P : Nat → zR} {l : Nat} (hl : l < 4) (hP : zgo t P) : ∀ f a c, (∀ r, zlp t P l f a c = .inr r → a ≤ r.1 ∧ r.2.length ≤ c.length + (r.1 - a) ∧ ∀ b, a ≤ b → b < r.1 → ¬ zkd t b = 26) ∧ ∀ x, zlp t P l f a c = .inl x → (x.1 = 1 ∨ x.1 = 5) ∧ a ≤ x.2 ∧ ∀ b, a ≤ b → b < x.2 → ¬ zkd t b = 26
  | 0, a, c => by
    refine ⟨fun r h => ?_, fun x h => ?_⟩
    · rw [zlp] at h
      cases h
      exact ⟨Nat.le_refl _, Nat.le_add_right _ _, fun b h1 h2 => by have h2 : b < a := h2; omega⟩
    · rw [zlp] at h
      cases h
  | f + 1, a, c => by
    rw [zlp]
    by_cases hlv : zlev (zkd t a) = l
    · rw [if_pos hlv]
      have h26 := zlev_26 hl hlv
      obtain ⟨p1, p2⟩ := hP (a + 1)
      cases hPa : P (a + 1) with
      | inl e =>
        refine ⟨fun r h => (by cases h), fun x h => ?_⟩
        cases h
        obtain ⟨q1, q2, q3⟩ := p2 _ hPa
        refine ⟨q1, by omega, fun b h1 h2 => ?_⟩
        by_cases e1 : b = a
        · rw [e1]; exact h26
        · exact q3 b (by omega) h2
      | inr r0 =>
        obtain ⟨q1, q2, q3⟩ := p1 _ hPa
        obtain ⟨i1, i2⟩ := zlp_go hl hP f r0.1 (c ++ (r0.2 ++ [zneg (zkd t a)]))
        refine ⟨fun r h => ?_, fun x h => ?_⟩
        · obtain ⟨j1, j2, j3⟩ := i1 r h
          rw [List.length_append, List.length_append, List.length_singleton] at j2
          refine ⟨by omega, by omega, fun b h1 h2 => ?_⟩
          by_cases e1 : b = a
          · rw [e1]; exact h26
          · by_cases e2 : b < r0.1
            · exact q3 b (by omega) e2
            · exact j3 b (by omega) h2
        · obtain ⟨j1, j2, j3⟩ := i2 x h
          refine ⟨j1, by omega, fun b h1 h2 => ?_⟩
          by_cases e1 : b = a
          · rw [e1]; exact h26
          · by_cases e2 : b < r0.1
            · exact q3 b (by omega) e2
            · exact j3 b (by omega) h2
    · rw [if_neg hlv]
      refine ⟨fun r h => ?_, fun x h => by cases h⟩
      cases h
      exact ⟨Nat.le_refl _, Nat.le_add_right _ _, fun b h1 h2 => by have h2 : b < a := h2; omega⟩
theorem zlv_go {t : zTp} {P : Nat → zR} {l f : Nat} (hl : l < 4) (hP : zgo t P) : zgo t (zlv t P l f) := by
  intro a
  unfold zlv
  obtain ⟨p1, p2⟩ := hP a
  cases hPa : P a with
  | inl e => exact ⟨fun r h => (by cases h), fun x h => (by cases h; exact p2 _ hPa)⟩
  | inr r0 =>
    obtain ⟨q1, q2, q3⟩ := p1 _ hPa
    obtain ⟨i1, i2⟩ := zlp_go hl hP f r0.1 r0.2
    refine ⟨fun r h => ?_, fun x h => ?_⟩
    · obtain ⟨j1, j2, j3⟩ := i1 r h
      refine ⟨by omega, by omega, fun b h1 h2 => ?_⟩
      by_cases e2 : b < r0.1
      · exact q3 b (by omega) e2
      · exact j3 b (by omega) h2
    · obtain ⟨j1, j2, j3⟩ := i2 x h
      refine ⟨j1, by omega, fun b h1 h2 => ?_⟩
      by_cases e2 : b < r0.1
      · exact q3 b (by omega) e2
      · exact j3 b (by omega) h2
theorem zLv_go {t : zTp} {P : Nat → zR} (hP : zgo t P) : ∀ m, zgo t (zLv t P m)
  | 0 => hP
  | m + 1 => zlv_go (by omega) (zLv_go hP m)
theorem zstart_26 {h : Bool} {k : Nat} (hs : zstart h k = true) : ¬ k = 26 := fun z => by
  rw [z] at hs
  unfold zstart at hs
  simp at hs
theorem zP_go (t : zTp) (h : Bool) : ∀ e, zgo t (zP t h e)
  | 0 => by
    intro a
    rw [zP]
    split
    · exact ⟨fun r h => (by cases h), fun x h => (by cases h; exact ⟨Or.inr rfl, Nat.le_refl _, fun b h1 h2 => by omega⟩)⟩
    · exact ⟨fun r h => (by cases h), fun x h => (by cases h; exact ⟨Or.inl rfl, Nat.le_refl _, fun b h1 h2 => by omega⟩)⟩
  | e + 1 => by
    intro a
    have ih := zP_go t h e
    rw [zP]
    split
    · next hs =>
      have h26 := zstart_26 hs
      have one : ∀ b, a ≤ b → b < a + 1 → ¬ zkd t b = 26 := fun b h1 h2 => by
        rw [show b = a by omega]
        exact h26
      split
      · obtain ⟨p1, p2⟩ := zLv_go ih 4 (a + 1)
        cases hPa : zLv t (zP t h e) 4 (a + 1) with
        | inl x0 =>
          refine ⟨fun r h => (by cases h), fun x h => ?_⟩
          cases h
          obtain ⟨q1, q2, q3⟩ := p2 _ hPa
          refine ⟨q1, by omega, fun b h1 h2 => ?_⟩
          by_cases e1 : b < a + 1
          · exact one b h1 e1
          · exact q3 b (by omega) h2
        | inr r0 =>
          obtain ⟨q1, q2, q3⟩ := p1 _ hPa
          dsimp only
          split
          · next h41 =>
            refine ⟨fun r h => ?_, fun x h => by cases h⟩
            cases h
            refine ⟨by show a < r0.1 + 1; omega, by show r0.2.length ≤ r0.1 + 1 - a; omega, fun b h1 h2 => ?_⟩
            have h2 : b < r0.1 + 1 := h2
            by_cases e1 : b < a + 1
            · exact one b h1 e1
            · by_cases e2 : b < r0.1
              · exact q3 b (by omega) e2
              · rw [show b = r0.1 by omega, h41]
                decide
          · refine ⟨fun r h => (by cases h), fun x h => ?_⟩
            cases h
            refine ⟨Or.inl rfl, by show a ≤ r0.1; omega, fun b h1 h2 => ?_⟩
            have h2 : b < r0.1 := h2
            by_cases e1 : b < a + 1
            · exact one b h1 e1
            · exact q3 b (by omega) h2
      · split
        · obtain ⟨p1, p2⟩ := ih (a + 1)
          cases hPa : zP t h e (a + 1) with
          | inl x0 =>
            refine ⟨fun r h => (by cases h), fun x h => ?_⟩
            cases h
            obtain ⟨q1, q2, q3⟩ := p2 _ hPa
            refine ⟨q1, by omega, fun b h1 h2 => ?_⟩
            by_cases e1 : b < a + 1
            · exact one b h1 e1
            · exact q3 b (by omega) h2
          | inr r0 =>
            obtain ⟨q1, q2, q3⟩ := p1 _ hPa
            refine ⟨fun r h => ?_, fun x h => by cases h⟩
            cases h
            refine ⟨by show a < r0.1; omega, ?_, fun b h1 h2 => ?_⟩
            · show (r0.2 ++ [zneg 17]).length ≤ r0.1 - a
              rw [List.length_append, List.length_singleton]
              omega
            · have h2 : b < r0.1 := h2
              by_cases e1 : b < a + 1
              · exact one b h1 e1
              · exact q3 b (by omega) h2
        · split
          · refine ⟨fun r h => ?_, fun x h => by cases h⟩
            cases h
            exact ⟨by show a < a + 1; omega, by show 1 ≤ a + 1 - a; omega, one⟩
          · refine ⟨fun r h => ?_, fun x h => by cases h⟩
            cases h
            exact ⟨by show a < a + 1; omega, by show 1 ≤ a + 1 - a; omega, one⟩
    · exact ⟨fun r h => (by cases h), fun x h => (by cases h; exact ⟨Or.inl rfl, Nat.le_refl _, fun b h1 h2 => by omega⟩)⟩
/-- no end before a: then a is small -/
def zpre (t : zTp) (a : Nat) : Prop := ∀ b, b < a → ¬ zkd t b = 26
theorem zpre_le {t : zTp} {a : Nat} (h : zpre t a) : a ≤ t.1 := by
  have h1 := zpos_ge t a (fun b hb => by
    have := h b hb
    rw [zkd_end] at this
    omega)
  have h2 := zpos_le t a
  omega
theorem zpre_r {t : zTp} {a a' : Nat} (h : zpre t a) (h2 : ∀ b, a ≤ b → b < a' → ¬ zkd t b = 26) : zpre t a' := fun b hb => by
  by_cases e : b < a
  · exact h b e
  · exact h2 b (by omega) hb
