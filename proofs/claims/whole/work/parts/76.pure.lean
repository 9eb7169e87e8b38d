/-! the lines of a court: what is so of all that is read -/
theorem zq15 {k a : Nat} (h : Nat.ble 1 k = true) (h2 : Nat.ble k 5 = true) : 1 ≤ (k, a).1 ∧ (k, a).1 ≤ 5 := ⟨Nat.le_of_ble_eq_true h, Nat.le_of_ble_eq_true h2⟩
theorem zNum_r {t : zTp} {a lo hi : Nat} {g : zS} {r : Nat × zDf} (h : zNum t a lo hi g = .inr r) : zkd t a = 25 ∧ zNo t a lo hi ∧ g = .inr r := by
  unfold zNum at h
  split at h
  · next h1 =>
    split at h
    · next h2 => exact ⟨h1, h2, h⟩
    · cases h
  · cases h
theorem zNum_l {t : zTp} {a lo hi : Nat} {g : zS} {x : Nat × Nat} (h : zNum t a lo hi g = .inl x) : (1 ≤ x.1 ∧ x.1 ≤ 5) ∨ g = .inl x := by
  unfold zNum at h
  split at h
  · split at h
    · exact Or.inr h
    · cases h
      exact Or.inl (zq15 rfl rfl)
  · cases h
    exact Or.inl (zq15 rfl rfl)
theorem zSgn_r {t : zTp} {a k : Nat} {g : zS} {r : Nat × zDf} (h : zSgn t a k g = .inr r) : zkd t a = k ∧ g = .inr r := by
  unfold zSgn at h
  split at h
  · next h1 => exact ⟨h1, h⟩
  · cases h
theorem zSgn_l {t : zTp} {a k : Nat} {g : zS} {x : Nat × Nat} (h : zSgn t a k g = .inl x) : (1 ≤ x.1 ∧ x.1 ≤ 5) ∨ g = .inl x := by
  unfold zSgn at h
  split at h
  · exact Or.inr h
  · cases h
    exact Or.inl (zq15 rfl rfl)
def zdok (t : zTp) (d : zDf) : Prop := (3 ≤ d.1 ∧ d.1 ≤ 12) ∧ d.2.1.length ≤ 6 ∧ (∀ c ∈ d.2.1, (13 ≤ c.1 ∧ c.1 ≤ 16) ∧ c.2.1 ≤ 11 ∧ c.2.2.1 ≤ 9 ∧ zWd c.2.2.2) ∧ (0 < d.2.2.1.length ∧ d.2.2.1.length ≤ 12 ∧ ∀ h ∈ d.2.2.1, h ≤ 5) ∧ (d.2.2.2.1.2.2.1 = true → ∃ a r, zLv t (zP t false 5) 4 a = .inr r ∧ d.2.2.2.2.1 = r.2) ∧ (d.2.2.2.1.2.2.2 = true → ∃ a r, zLv t (zP t true 5) 4 a = .inr r ∧ d.2.2.2.2.2 = r.2)
theorem zD0_ok (t : zTp) : zdok t zD0 := by
  refine ⟨⟨by decide, by decide⟩, by decide, fun c hc => (by cases hc), ⟨by decide, by decide, fun h hh => ?_⟩, fun h => Bool.noConfusion h, fun h => Bool.noConfusion h⟩
  have hh : h ∈ [2] := hh
  rw [List.mem_singleton] at hh
  omega
/-- a line moves on, and not over the end -/
def zmv (t : zTp) (a b : Nat) : Prop := a < b ∧ ∀ c, a ≤ c → c < b → ¬ zkd t c = 26
theorem zmv_1 {t : zTp} {a k : Nat} (h : zkd t a = k) (hk : ¬ k = 26) : zmv t a (a + 1) := ⟨Nat.lt_succ_self a, fun c h1 h2 => by
  rw [show c = a by omega, h]
  exact hk⟩
theorem zmv_t {t : zTp} {a b c : Nat} (h1 : zmv t a b) (h2 : zmv t b c) : zmv t a c := ⟨Nat.lt_trans h1.1 h2.1, fun x h3 h4 => by
  by_cases e : x < b
  · exact h1.2 x h3 e
  · exact h2.2 x (by omega) h4⟩
theorem zL0_ok {t : zTp} {d : zDf} {a : Nat} {r : Nat × zDf} (hk : zkd t a = 0) (hd : zdok t d) (h : zL0 t d a = .inr r) : zdok t r.2 ∧ zmv t a r.1 := by
  unfold zL0 at h
  split at h
  · cases h
  · obtain ⟨k1, k2, h⟩ := zNum_r h
    obtain ⟨k3, h⟩ := zSgn_r h
    cases h
    obtain ⟨h1, h2, h3, h4, h5, h6⟩ := hd
    exact ⟨⟨k2, h2, h3, h4, h5, h6⟩, zmv_t (zmv_1 hk (by decide)) (zmv_t (zmv_1 k1 (by decide)) (zmv_1 k3 (by decide)))⟩
theorem zName_26 {t : zTp} {a : Nat} (h : zName t a) : zkd t a ≤ 24 := by
  rcases h with h | h <;> omega
theorem zL1_ok {t : zTp} {d : zDf} {a : Nat} {r : Nat × zDf} (hk : zkd t a = 1) (hd : zdok t d) (h : zL1 t d a = .inr r) : zdok t r.2 ∧ zmv t a r.1 := by
  unfold zL1 at h
  split at h
  · cases h
  · next hl =>
    split at h
    · next hN =>
      split at h
      · split at h
        · next hK =>
          obtain ⟨k1, h⟩ := zSgn_r h
          obtain ⟨k2, k3, h⟩ := zNum_r h
          obtain ⟨k4, h⟩ := zSgn_r h
          obtain ⟨k5, k6, h⟩ := zNum_r h
          obtain ⟨k7, h⟩ := zSgn_r h
          cases h
          obtain ⟨h1, h2, h3, h4, h5, h6⟩ := hd
          have hle := zName_26 hN
          refine ⟨⟨h1, ?_, fun c hc => ?_, h4, h5, h6⟩, zmv_t (zmv_1 hk (by decide)) (zmv_t (zmv_1 (a := a + 1) (k := zkd t (a + 1)) rfl (by omega)) (zmv_t (zmv_1 (a := a + 2) (k := zkd t (a + 2)) rfl (by omega)) (zmv_t (zmv_1 k1 (by decide)) (zmv_t (zmv_1 k2 (by decide)) (zmv_t (zmv_1 k4 (by decide)) (zmv_t (zmv_1 k5 (by decide)) (zmv_1 k7 (by decide))))))))⟩
          · show (d.2.1 ++ [_]).length ≤ 6
            rw [List.length_append, List.length_singleton]
            omega
          · have hc : c ∈ d.2.1 ++ [_] := hc
            rw [List.mem_append, List.mem_singleton] at hc
            rcases hc with hc | hc
            · exact h3 c hc
            · subst hc
              exact ⟨hK, k3.2, k6.2, (zwd_ok hle).2.2.2.1⟩
        · cases h
      · cases h
    · cases h
theorem zHl_ok {t : zTp} {d : zDf} {r : Nat × zDf} : ∀ f a h, zdok t (d.1, d.2.1, [0], d.2.2.2) → h.length + f = 12 → (∀ x ∈ h, x ≤ 5) → zHl t d f a h = .inr r → zdok t r.2 ∧ zmv t a r.1
  | 0, a, h, hd, hl, hx, hz => by
    rw [zHl] at hz
    split at hz
    · cases hz
    · obtain ⟨k1, hz⟩ := zSgn_r hz
      cases hz
      obtain ⟨h1, h2, h3, -, h5, h6⟩ := hd
      exact ⟨⟨h1, h2, h3, ⟨by show 0 < h.length; omega, by show h.length ≤ 12; omega, hx⟩, h5, h6⟩, zmv_1 k1 (by decide)⟩
  | f + 1, a, h, hd, hl, hx, hz => by
    rw [zHl] at hz
    split at hz
    · obtain ⟨k1, k2, hz⟩ := zNum_r hz
      obtain ⟨i1, i2⟩ := zHl_ok f (a + 1) (h ++ [znb t a]) hd (by
        rw [List.length_append, List.length_singleton]
        omega) (fun x hx2 => by
        rw [List.mem_append, List.mem_singleton] at hx2
        rcases hx2 with hx2 | hx2
        · exact hx x hx2
        · rw [hx2]
          exact k2.2) hz
      exact ⟨i1, zmv_t (zmv_1 k1 (by decide)) i2⟩
    · next hne =>
      obtain ⟨k1, hz⟩ := zSgn_r hz
      cases hz
      obtain ⟨h1, h2, h3, -, h5, h6⟩ := hd
      have h0 : ¬ h = [] := fun z => hne (Or.inl z)
      have hp := List.length_pos_iff.mpr h0
      exact ⟨⟨h1, h2, h3, ⟨hp, by show h.length ≤ 12; omega, hx⟩, h5, h6⟩, zmv_1 k1 (by decide)⟩
theorem zL4_ok {t : zTp} {d : zDf} {a : Nat} {r : Nat × zDf} (hk : zkd t a = 4) (hd : zdok t d) (h : zL4 t d a = .inr r) : zdok t r.2 ∧ zmv t a r.1 := by
  unfold zL4 at h
  split at h
  · cases h
  · obtain ⟨h1, h2, h3, h4, h5, h6⟩ := hd
    obtain ⟨i1, i2⟩ := zHl_ok (d := (d.1, d.2.1, d.2.2.1, zos d.2.2.2.1 4, d.2.2.2.2)) 12 (a + 1) [] ⟨h1, h2, h3, ⟨by show 0 < [0].length; decide, by show [0].length ≤ 12; decide, fun x hx => by
      have hx : x ∈ [0] := hx
      rw [List.mem_singleton] at hx
      omega⟩, h5, h6⟩ (Nat.zero_add 12) (fun x hx => by cases hx) h
    exact ⟨i1, zmv_t (zmv_1 hk (by decide)) i2⟩
theorem zLv_mv {t : zTp} {b : Bool} {a : Nat} {r : Nat × List Int32} (h : zLv t (zP t b 5) 4 a = .inr r) : zmv t a r.1 := by
  obtain ⟨q1, q2, q3⟩ := (zLv_go (zP_go t b 5) 4 a).1 _ h
  exact ⟨q1, q3⟩
theorem zL5_ok {t : zTp} {d : zDf} {a : Nat} {r : Nat × zDf} (hk : zkd t a = 5) (hd : zdok t d) (h : zL5 t d a = .inr r) : zdok t r.2 ∧ zmv t a r.1 := by
  unfold zL5 at h
  split at h
  · cases h
  · split at h
    · cases h
    · next r0 hr =>
      obtain ⟨k1, h⟩ := zSgn_r h
      cases h
      obtain ⟨h1, h2, h3, h4, h5, h6⟩ := hd
      exact ⟨⟨h1, h2, h3, h4, fun _ => ⟨_, r0, hr, rfl⟩, h6⟩, zmv_t (zmv_1 hk (by decide)) (zmv_t (zLv_mv hr) (zmv_1 k1 (by decide)))⟩
theorem zL6_ok {t : zTp} {d : zDf} {a : Nat} {r : Nat × zDf} (hk : zkd t a = 6) (hd : zdok t d) (h : zL6 t d a = .inr r) : zdok t r.2 ∧ zmv t a r.1 := by
  unfold zL6 at h
  split at h
  · cases h
  · split at h
    · cases h
    · next r0 hr =>
      obtain ⟨k1, h⟩ := zSgn_r h
      cases h
      obtain ⟨h1, h2, h3, h4, h5, h6⟩ := hd
      exact ⟨⟨h1, h2, h3, h4, h5, fun _ => ⟨_, r0, hr, rfl⟩⟩, zmv_t (zmv_1 hk (by decide)) (zmv_t (zLv_mv hr) (zmv_1 k1 (by decide)))⟩
theorem zLine_ok {t : zTp} {d : zDf} {a : Nat} {r : Nat × zDf} (hd : zdok t d) (h : zLine t d a = .inr r) : zdok t r.2 ∧ zmv t a r.1 := by
  unfold zLine at h
  by_cases h0 : zkd t a = 0
  · rw [if_pos h0] at h
    exact zL0_ok h0 hd h
  rw [if_neg h0] at h
  by_cases h1 : zkd t a = 1
  · rw [if_pos h1] at h
    exact zL1_ok h1 hd h
  rw [if_neg h1] at h
  by_cases h4 : zkd t a = 4
  · rw [if_pos h4] at h
    exact zL4_ok h4 hd h
  rw [if_neg h4] at h
  by_cases h5 : zkd t a = 5
  · rw [if_pos h5] at h
    exact zL5_ok h5 hd h
  rw [if_neg h5] at h
  by_cases h6 : zkd t a = 6
  · rw [if_pos h6] at h
    exact zL6_ok h6 hd h
  rw [if_neg h6] at h
  cases h
/-- faults are of five kinds -/
def z15 (x : Nat × Nat) : Prop := 1 ≤ x.1 ∧ x.1 ≤ 5
theorem zHl_f {t : zTp} {d : zDf} {x : Nat × Nat} : ∀ f a h, zHl t d f a h = .inl x → z15 x
  | 0, a, h, hz => by
    rw [zHl] at hz
    split at hz
    · cases hz
      show 1 ≤ (if znb t a ≤ 5 then 5 else 4) ∧ (if znb t a ≤ 5 then 5 else 4) ≤ 5
      split <;> decide
    · exact (zSgn_l hz).elim id (fun z => by cases z)
  | f + 1, a, h, hz => by
    rw [zHl] at hz
    split at hz
    · exact (zNum_l hz).elim id (fun z => zHl_f f _ _ z)
    · exact (zSgn_l hz).elim id (fun z => by cases z)
theorem zLine_f {t : zTp} {d : zDf} {a : Nat} {x : Nat × Nat} (h : zLine t d a = .inl x) : z15 x := by
  have law : ∀ b, zLv t (zP t b 5) 4 (a + 1) = .inl x → z15 x := fun b z => by
    obtain ⟨q1, -⟩ := (zLv_go (zP_go t b 5) 4 (a + 1)).2 _ z
    unfold z15
    omega
  unfold zLine at h
  split at h
  · unfold zL0 at h
    split at h
    · cases h
      exact zq15 rfl rfl
    · exact (zNum_l h).elim id (fun z => (zSgn_l z).elim id (fun z => by cases z))
  · split at h
    · unfold zL1 at h
      split at h
      · cases h
        exact zq15 rfl rfl
      · split at h
        · split at h
          · split at h
            · exact (zSgn_l h).elim id (fun z => (zNum_l z).elim id (fun z => (zSgn_l z).elim id (fun z => (zNum_l z).elim id (fun z => (zSgn_l z).elim id (fun z => by cases z)))))
            · cases h
              exact zq15 rfl rfl
          · cases h
            exact zq15 rfl rfl
        · cases h
          exact zq15 rfl rfl
    · split at h
      · unfold zL4 at h
        split at h
        · cases h
          exact zq15 rfl rfl
        · exact zHl_f _ _ _ h
      · split at h
        · unfold zL5 at h
          split at h
          · cases h
            exact zq15 rfl rfl
          · split at h
            · next hr =>
              cases h
              exact law _ hr
            · exact (zSgn_l h).elim id (fun z => by cases z)
        · split at h
          · unfold zL6 at h
            split at h
            · cases h
              exact zq15 rfl rfl
            · split at h
              · next hr =>
                cases h
                exact law _ hr
              · exact (zSgn_l h).elim id (fun z => by cases z)
          · cases h
            exact zq15 rfl rfl
theorem zLines_ok {t : zTp} {d' : zDf} : ∀ f a d, zdok t d → zLines t f a d = .inr d' → zdok t d'
  | 0, a, d, hd, h => by
    rw [zLines] at h
    cases h
    exact hd
  | f + 1, a, d, hd, h => by
    rw [zLines] at h
    split at h
    · cases h
      exact hd
    · split at h
      · cases h
      · next r hr => exact zLines_ok f r.1 r.2 (zLine_ok hd hr).1 h
theorem zLines_f {t : zTp} {x : Nat × Nat} : ∀ f a d, zLines t f a d = .inl x → z15 x
  | 0, a, d, h => by
    rw [zLines] at h
    cases h
  | f + 1, a, d, h => by
    rw [zLines] at h
    split at h
    · cases h
    · split at h
      · next hr =>
        cases h
        exact zLine_f hr
      · exact zLines_f f _ _ h
