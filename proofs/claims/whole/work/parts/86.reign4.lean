/-! the lines of a reign: what is so of all that is read; the class reads a reign -/
theorem zNumR_r {t : zTp} {a lo hi : Nat} {g : zT2} {r : Nat × zRl} (h : zNumR t a lo hi g = .inr r) : zkd t a = 25 ∧ zNo t a lo hi ∧ g = .inr r := by
  unfold zNumR at h
  split at h
  · next h1 =>
    split at h
    · next h2 => exact ⟨h1, h2, h⟩
    · cases h
  · cases h
theorem zNumR_l {t : zTp} {a lo hi : Nat} {g : zT2} {x : Nat × Nat} (h : zNumR t a lo hi g = .inl x) : z15 x ∨ g = .inl x := by
  unfold zNumR at h
  split at h
  · split at h
    · exact Or.inr h
    · cases h
      exact Or.inl (zq15 rfl rfl)
  · cases h
    exact Or.inl (zq15 rfl rfl)
theorem zSgnR_r {t : zTp} {a k : Nat} {g : zT2} {r : Nat × zRl} (h : zSgnR t a k g = .inr r) : zkd t a = k ∧ g = .inr r := by
  unfold zSgnR at h
  split at h
  · next h1 => exact ⟨h1, h⟩
  · cases h
theorem zSgnR_l {t : zTp} {a k : Nat} {g : zT2} {x : Nat × Nat} (h : zSgnR t a k g = .inl x) : z15 x ∨ g = .inl x := by
  unfold zSgnR at h
  split at h
  · exact Or.inr h
  · cases h
    exact Or.inl (zq15 rfl rfl)
theorem zTol_r {t : zTp} {cs : List zCr} {a : Nat} {g : Nat → zT2} {r : Nat × zRl} (h : zTol t cs a g = .inr r) : zName t a ∧ ∃ i, zFnd cs (zwd t a) 0 = some i ∧ g i = .inr r := by
  unfold zTol at h
  split at h
  · next h1 =>
    split at h
    · cases h
    · next i hi => exact ⟨h1, i, hi, h⟩
  · cases h
theorem zTol_l {t : zTp} {cs : List zCr} {a : Nat} {g : Nat → zT2} {x : Nat × Nat} (h : zTol t cs a g = .inl x) : z15 x ∨ ∃ i, g i = .inl x := by
  unfold zTol at h
  split at h
  · split at h
    · cases h
      exact Or.inl (zq15 rfl rfl)
    · next i hi => exact Or.inr ⟨i, h⟩
  · cases h
    exact Or.inl (zq15 rfl rfl)
def zrl (p : Nat) (x : Nat × Nat × Nat) : Prop := (7 ≤ x.1 ∧ x.1 ≤ 12) ∧ x.2.1 ≤ 11 ∧ x.2.2 ≤ 20 ∧ (x.1 = 7 → 1 ≤ x.2.2) ∧ (x.1 = 11 → x.2.1 < p ∧ x.2.2 < p ∧ ¬ x.2.1 = x.2.2)
def zrok (p : Nat) (ls : zRl) : Prop := ls.length ≤ 40 ∧ ∀ x ∈ ls, zrl p x
theorem zrok_push {p : Nat} {ls : zRl} {x : Nat × Nat × Nat} (h : zrok p ls) (hl : ls.length < 40) (hx : zrl p x) : zrok p (ls ++ [x]) := by
  refine ⟨?_, fun y hy => ?_⟩
  · rw [List.length_append, List.length_singleton]
    omega
  · rw [List.mem_append, List.mem_singleton] at hy
    rcases hy with hy | hy
    · exact h.2 y hy
    · rw [hy]
      exact hx
theorem zRline_ok {t : zTp} {cs : List zCr} {ls : zRl} {a : Nat} {r : Nat × zRl} (hc : cs.length ≤ 6) (hs : zrok cs.length ls) (h : zRline t cs ls a = .inr r) : zrok cs.length r.2 ∧ zmv t a r.1 := by
  unfold zRline at h
  by_cases hA : 7 ≤ zkd t a ∧ zkd t a ≤ 12
  rotate_left
  · rw [if_neg hA] at h
    cases h
  rw [if_pos hA] at h
  have m0 : zmv t a (a + 1) := zmv_1 (k := zkd t a) rfl (by omega)
  by_cases h40 : 40 ≤ ls.length
  · rw [if_pos h40] at h
    cases h
  rw [if_neg h40] at h
  by_cases k7 : zkd t a = 7
  · rw [if_pos k7] at h
    unfold zR7 at h
    obtain ⟨h1, h2, h⟩ := zNumR_r h
    obtain ⟨h3, h4, h⟩ := zNumR_r h
    obtain ⟨h5, h⟩ := zSgnR_r h
    cases h
    exact ⟨zrok_push hs (by omega) ⟨⟨by show 7 ≤ 7; decide, by show 7 ≤ 12; decide⟩, h2.2, h4.2, fun _ => h4.1, fun z => absurd z (by show ¬ 7 = 11; decide)⟩, zmv_t m0 (zmv_t (zmv_1 h1 (by decide)) (zmv_t (zmv_1 h3 (by decide)) (zmv_1 h5 (by decide))))⟩
  rw [if_neg k7] at h
  by_cases k8 : zkd t a = 8 ∨ zkd t a = 9
  · rw [if_pos k8] at h
    unfold zR8 at h
    obtain ⟨h1, h2, h⟩ := zNumR_r h
    obtain ⟨h5, h⟩ := zSgnR_r h
    cases h
    exact ⟨zrok_push hs (by omega) ⟨hA, h2.2, Nat.zero_le _, fun z => absurd z k7, fun z => by have z : zkd t a = 11 := z; omega⟩, zmv_t m0 (zmv_t (zmv_1 h1 (by decide)) (zmv_1 h5 (by decide)))⟩
  rw [if_neg k8] at h
  by_cases k11 : zkd t a = 11
  · rw [if_pos k11] at h
    unfold zR11 at h
    obtain ⟨h1, i, h2, h⟩ := zTol_r h
    split at h
    · cases h
    · next hne =>
      obtain ⟨h3, j, h4, h⟩ := zTol_r h
      obtain ⟨h5, h⟩ := zSgnR_r h
      cases h
      have hi := zFnd_lt _ cs 0 i h2
      have hj := zFnd_lt _ cs 0 j h4
      have l1 := zName_26 h1
      have l3 := zName_26 h3
      refine ⟨zrok_push hs (by omega) ⟨⟨by show 7 ≤ 11; decide, by show 11 ≤ 12; decide⟩, by show i ≤ 11; omega, by show j ≤ 20; omega, fun z => absurd z (by show ¬ 11 = 7; decide), fun _ => ⟨by show i < cs.length; omega, by show j < cs.length; omega, fun z => ?_⟩⟩, zmv_t m0 (zmv_t (zmv_1 (a := a + 1) (k := zkd t (a + 1)) rfl (by omega)) (zmv_t (zmv_1 (a := a + 2) (k := zkd t (a + 2)) rfl (by omega)) (zmv_1 h5 (by decide))))⟩
      have z : i = j := z
      exact hne ⟨h3, by rw [z]; exact h4⟩
  rw [if_neg k11] at h
  unfold zR10 at h
  obtain ⟨h5, h⟩ := zSgnR_r h
  cases h
  exact ⟨zrok_push hs (by omega) ⟨hA, Nat.zero_le _, Nat.zero_le _, fun z => absurd z k7, fun z => absurd z k11⟩, zmv_t m0 (zmv_1 h5 (by decide))⟩
theorem zRline_f {t : zTp} {cs : List zCr} {ls : zRl} {a : Nat} {x : Nat × Nat} (h : zRline t cs ls a = .inl x) : z15 x := by
  unfold zRline at h
  split at h
  · split at h
    · cases h
      exact zq15 rfl rfl
    · split at h
      · exact (zNumR_l h).elim id (fun z => (zNumR_l z).elim id (fun z => (zSgnR_l z).elim id (fun z => by cases z)))
      · split at h
        · exact (zNumR_l h).elim id (fun z => (zSgnR_l z).elim id (fun z => by cases z))
        · split at h
          · rcases zTol_l h with h | ⟨i, h⟩
            · exact h
            · split at h
              · cases h
                exact zq15 rfl rfl
              · rcases zTol_l h with h | ⟨j, h⟩
                · exact h
                · exact (zSgnR_l h).elim id (fun z => by cases z)
          · exact (zSgnR_l h).elim id (fun z => by cases z)
  · cases h
    exact zq15 rfl rfl
theorem zRlines_f {t : zTp} {cs : List zCr} {x : Nat × Nat} : ∀ f a ls, zRlines t cs f a ls = .inl x → z15 x
  | 0, a, ls, h => by
    rw [zRlines] at h
    cases h
  | f + 1, a, ls, h => by
    rw [zRlines] at h
    split at h
    · cases h
    · split at h
      · next hr =>
        cases h
        exact zRline_f hr
      · exact zRlines_f f _ _ h
theorem zRlines_ok {t : zTp} {cs : List zCr} {l : zRl} (hc : cs.length ≤ 6) : ∀ f a ls, zrok cs.length ls → zRlines t cs f a ls = .inr l → zrok cs.length l
  | 0, a, ls, hs, h => by
    rw [zRlines] at h
    cases h
    exact hs
  | f + 1, a, ls, hs, h => by
    rw [zRlines] at h
    split at h
    · cases h
      exact hs
    · split at h
      · cases h
      · next r hr => exact zRlines_ok hc f _ _ (zRline_ok hc hs hr).1 h
