/-! what the code of an E comes to -/
def zop (x : Int32) : Int32 := if 0 ≤ x then 1 else if x ^^^ -1 = 17 then 3 else if x ^^^ -1 = 43 then 4 else if x ^^^ -1 = 45 then 5 else if x ^^^ -1 = 42 then 6 else if x ^^^ -1 = 60 then 7 else if x ^^^ -1 = 61 then 8 else if x ^^^ -1 = 18 then 9 else if x ^^^ -1 = 19 then 10 else 2
def zar (x : Int32) : Int32 := if 0 ≤ x then x else if zop x = 2 then (x ^^^ -1) - 20 else 0
/-- facts alike, as far as they may stand -/
def zgl (h : Bool) (g g' : Nat → Int32) : Prop := ∀ i, i < 4 → (i = 3 → h = true) → g i = g' i
def zkf (g : Nat → Int32) (c : List Int32) (ms : Nat × (Nat → Int32)) : Nat × (Nat → Int32) := c.foldl (fun ms x => kl_step g x ms) ms
def zmf (g : Nat → Int32) (c : List Int32) (ms : Nat × (Nat → Int32)) : Nat × (Nat → Int32) := c.foldl (fun ms x => mo_step g (zop x) (zar x) ms) ms
/-- one value more on the pile, V of the facts -/
def zto (n : Nat) (s : Nat → Int32) (v : Int32) (r : Nat × (Nat → Int32)) : Prop := r.1 = n + 1 ∧ (∀ j, j < n → r.2 j = s j) ∧ r.2 n = v
def zKl (H : Nat) (c : List Int32) (V : (Nat → Int32) → Int32) : Prop := ∀ g n s, n + H ≤ 32 → zto n s (V g) (zkf g c (n, s))
def zgood (g : Nat → Int32) : List Int32 → Nat × (Nat → Int32) → Prop
  | [], _ => True
  | x :: c, ms => mo_good (zop x) (zar x) ms.1 ∧ zgood g c (mo_step g (zop x) (zar x) ms)
def zMo (c : List Int32) (V : (Nat → Int32) → Int32) : Prop := ∀ g n s, n + c.length ≤ 1000 → zto n s (V g) (zmf g c (n, s)) ∧ zgood g c (n, s)
def zVal (h : Bool) (H : Nat) (c : List Int32) : Prop := ∃ V, (∀ g g', zgl h g g' → V g = V g') ∧ zKl H c V ∧ zMo c V ∧ 0 < c.length
theorem zkf_app (g : Nat → Int32) (c c' : List Int32) (ms : Nat × (Nat → Int32)) : zkf g (c ++ c') ms = zkf g c' (zkf g c ms) := List.foldl_append ..
theorem zmf_app (g : Nat → Int32) (c c' : List Int32) (ms : Nat × (Nat → Int32)) : zmf g (c ++ c') ms = zmf g c' (zmf g c ms) := List.foldl_append ..
theorem zgood_app (g : Nat → Int32) : ∀ (c c' : List Int32) (ms : Nat × (Nat → Int32)), zgood g c ms → zgood g c' (zmf g c ms) → zgood g (c ++ c') ms
  | [], c', ms, _, h => h
  | x :: c, c', ms, h1, h2 => ⟨h1.1, zgood_app g c c' _ h1.2 h2⟩
theorem zVal_num {h : Bool} {H v : Nat} (hH : 1 ≤ H) (hv : v < 10000) : zVal h H [nI v] := by
  have h0 : (0 : Int32) ≤ nI v := nI_le (a := 0) (Nat.zero_le _) (by omega)
  have hF : kl_isF (nI v) = false := by
    cases hb : kl_isF (nI v)
    · rfl
    · exfalso
      unfold kl_isF at hb
      simp only [Bool.and_eq_true, decide_eq_true_eq] at hb
      have e1 := hb.1
      rw [Int32.le_iff_toInt_le] at e1 h0
      have e2 : (nI v ^^^ -1).toInt = - (nI v).toInt - 1 := by
        have tv : (nI v).toInt = (v : Int) := nI_toInt (by omega)
        rw [Int32.xor_neg_one, Int32.toInt_not, tv]
        unfold Int.bmod
        dsimp only
        split <;> omega
      rw [e2] at e1
      have e3 : (20 : Int32).toInt = 20 := by decide
      have e4 : (0 : Int32).toInt = 0 := by decide
      rw [e3] at e1
      rw [e4] at h0
      omega
  have hop : zop (nI v) = 1 := by
    unfold zop
    rw [if_pos h0]
  have har : zar (nI v) = nI v := by
    unfold zar
    rw [if_pos h0]
  refine ⟨fun _ => nI v, fun _ _ _ => rfl, fun g n s hn => ?_, fun g n s hn => ⟨?_, ?_, trivial⟩, Nat.one_pos⟩
  · show zto n s (nI v) (kl_step g (nI v) (n, s))
    unfold kl_step
    rw [if_pos ⟨Or.inl h0, by show n < 32; omega⟩, hF]
    exact ⟨rfl, fun j hj => upd_ne _ _ (by omega), upd_same ..⟩
  · show zto n s (nI v) (mo_step g (zop (nI v)) (zar (nI v)) (n, s))
    unfold mo_step
    rw [hop, har, if_pos rfl]
    exact ⟨rfl, fun j hj => upd_ne _ _ (by omega), upd_same ..⟩
  · have hn : n + 1 ≤ 1000 := hn
    rw [hop]
    exact ⟨by decide, Or.inl ⟨rfl, by show n < 1100; omega⟩, by show n ≤ 1100; omega⟩
theorem zVal_fact {h : Bool} {H k : Nat} (hH : 1 ≤ H) (hk : 20 ≤ k ∧ k ≤ 23) (h3 : k = 23 → h = true) : zVal h H [zneg k] := by
  have A : kl_isF (zneg k) = true ∧ ((zneg k ^^^ -1) - 20).toNatClampNeg = k - 20 ∧ zop (zneg k) = 2 ∧ zar (zneg k) = nI (k - 20) ∧ vp_in (nI (k - 20)) 4 ∧ (nI (k - 20)).toNatClampNeg = k - 20 := by
    have : k = 20 ∨ k = 21 ∨ k = 22 ∨ k = 23 := by omega
    refine ⟨?_, ?_, ?_, ?_, nI_in (by omega) (by decide), nI_clamp (by omega)⟩ <;> rcases this with e | e | e | e <;> subst e <;> decide
  obtain ⟨A1, A2, A3, A4, A5, A6⟩ := A
  refine ⟨fun g => g (k - 20), fun g g' hg => hg (k - 20) (by omega) (fun z => h3 (by omega)), fun g n s hn => ?_, fun g n s hn => ⟨?_, ?_, trivial⟩, Nat.one_pos⟩
  · show zto n s (g (k - 20)) (kl_step g (zneg k) (n, s))
    unfold kl_step
    rw [if_pos ⟨Or.inr A1, by show n < 32; omega⟩, A1, if_pos rfl, A2]
    exact ⟨rfl, fun j hj => upd_ne _ _ (by omega), upd_same ..⟩
  · show zto n s (g (k - 20)) (mo_step g (zop (zneg k)) (zar (zneg k)) (n, s))
    unfold mo_step
    rw [A3, A4, if_neg (by decide), if_pos rfl, A6]
    exact ⟨rfl, fun j hj => upd_ne _ _ (by omega), upd_same ..⟩
  · have hn : n + 1 ≤ 1000 := hn
    rw [A3, A4]
    exact ⟨by decide, Or.inr (Or.inl ⟨rfl, by show n < 1100; omega, A5⟩), by show n ≤ 1100; omega⟩
theorem zVal_H {h : Bool} {H H' : Nat} {c : List Int32} (hH : H ≤ H') (hc : zVal h H c) : zVal h H' c := by
  obtain ⟨V, h1, h2, h3⟩ := hc
  exact ⟨V, h1, fun g n s hn => h2 g n s (by omega), h3⟩
theorem zVal_not {h : Bool} {H : Nat} {c : List Int32} (hc : zVal h H c) : zVal h H (c ++ [zneg 17]) := by
  obtain ⟨V, h1, h2, h3, h4⟩ := hc
  have A1 : ¬ (0 : Int32) ≤ zneg 17 := by decide
  have A2 : kl_isF (zneg 17) = false := by decide
  have A3 : zneg 17 ^^^ -1 = 17 := by decide
  have A4 : zop (zneg 17) = 3 := by decide
  refine ⟨fun g => if V g = 0 then 1 else 0, fun g g' hg => by dsimp only; rw [h1 g g' hg], fun g n s hn => ?_, fun g n s hn => ?_, ?_⟩
  · obtain ⟨r1, r2, r3⟩ := h2 g n s hn
    rw [zkf_app]
    generalize zkf g c (n, s) = r at r1 r2 r3
    show zto n s _ (kl_step g (zneg 17) r)
    unfold kl_step
    rw [if_neg (fun z => z.1.elim A1 (by rw [A2]; decide)), if_pos ⟨A3, by omega⟩, r1, Nat.add_sub_cancel, r3]
    exact ⟨rfl, fun j hj => (upd_ne _ _ (by omega)).trans (r2 j hj), upd_same ..⟩
  · rw [List.length_append, List.length_singleton] at hn
    obtain ⟨⟨r1, r2, r3⟩, r4⟩ := h3 g n s (by omega)
    refine ⟨?_, zgood_app g c _ _ r4 ?_⟩
    · rw [zmf_app]
      generalize zmf g c (n, s) = r at r1 r2 r3
      show zto n s _ (mo_step g (zop (zneg 17)) (zar (zneg 17)) r)
      unfold mo_step
      rw [A4, if_neg (by decide), if_neg (by decide), if_pos rfl, r1, Nat.add_sub_cancel, r3]
      exact ⟨rfl, fun j hj => (upd_ne _ _ (by omega)).trans (r2 j hj), upd_same ..⟩
    · refine ⟨?_, trivial⟩
      rw [A4, r1]
      exact ⟨by decide, Or.inr (Or.inr (Or.inl ⟨rfl, by omega⟩)), by omega⟩
  · rw [List.length_append]
    omega
theorem zVal_two {h : Bool} {H k : Nat} {c c' : List Int32} (hk : zlev k ≤ 3) (hc : zVal h (H + 1) c) (hc' : zVal h H c') : zVal h (H + 1) (c ++ (c' ++ [zneg k])) := by
  obtain ⟨V, h1, h2, h3, h4⟩ := hc
  obtain ⟨V', h1', h2', h3', h4'⟩ := hc'
  have k7 : k = 18 ∨ k = 19 ∨ k = 60 ∨ k = 61 ∨ k = 43 ∨ k = 45 ∨ k = 42 := by
    unfold zlev at hk
    split at hk
    · omega
    · split at hk
      · omega
      · split at hk
        · omega
        · split at hk <;> omega
  have A1 : ¬ (0 : Int32) ≤ zneg k := by rcases k7 with e | e | e | e | e | e | e <;> subst e <;> decide
  have A2 : kl_isF (zneg k) = false := by rcases k7 with e | e | e | e | e | e | e <;> subst e <;> decide
  have A3 : ¬ zneg k ^^^ -1 = 17 := by rcases k7 with e | e | e | e | e | e | e <;> subst e <;> decide
  have A4 : ¬ zop (zneg k) = 1 ∧ ¬ zop (zneg k) = 2 ∧ ¬ zop (zneg k) = 3 ∧ ¬ zop (zneg k) = 0 := by rcases k7 with e | e | e | e | e | e | e <;> subst e <;> decide
  have A5 : ∀ x y, mo_both (zop (zneg k)) x y = kl_join (zneg k ^^^ -1) x y := by
    intro x y
    rcases k7 with e | e | e | e | e | e | e <;> subst e
    · rw [show zop (zneg 18) = 9 by decide, show zneg 18 ^^^ -1 = 18 by decide]
      simp [mo_both, kl_join]
    · rw [show zop (zneg 19) = 10 by decide, show zneg 19 ^^^ -1 = 19 by decide]
      simp [mo_both, kl_join]
    · rw [show zop (zneg 60) = 7 by decide, show zneg 60 ^^^ -1 = 60 by decide]
      simp [mo_both, kl_join]
    · rw [show zop (zneg 61) = 8 by decide, show zneg 61 ^^^ -1 = 61 by decide]
      simp [mo_both, kl_join]
    · rw [show zop (zneg 43) = 4 by decide, show zneg 43 ^^^ -1 = 43 by decide]
      simp [mo_both, kl_join]
    · rw [show zop (zneg 45) = 5 by decide, show zneg 45 ^^^ -1 = 45 by decide]
      simp [mo_both, kl_join]
    · rw [show zop (zneg 42) = 6 by decide, show zneg 42 ^^^ -1 = 42 by decide]
      simp [mo_both, kl_join]
  obtain ⟨B1, B2, B3, B0⟩ := A4
  refine ⟨fun g => kl_join (zneg k ^^^ -1) (V g) (V' g), fun g g' hg => by dsimp only; rw [h1 g g' hg, h1' g g' hg], fun g n s hn => ?_, fun g n s hn => ?_, ?_⟩
  · obtain ⟨r1, r2, r3⟩ := h2 g n s hn
    rw [zkf_app, zkf_app]
    generalize zkf g c (n, s) = r at r1 r2 r3
    obtain ⟨r0, rs⟩ := r
    have r1 : r0 = n + 1 := r1
    subst r1
    have r3 : rs n = V g := r3
    obtain ⟨q1, q2, q3⟩ := h2' g (n + 1) rs (by omega)
    generalize zkf g c' (n + 1, rs) = q at q1 q2 q3
    show zto n s _ (kl_step g (zneg k) q)
    unfold kl_step
    rw [if_neg (fun z => z.1.elim A1 (by rw [A2]; decide)), if_neg (fun z => A3 z.1), if_pos (by omega), q1, Nat.add_sub_cancel, show n + 1 + 1 - 2 = n by omega, q3, q2 n (by omega), r3]
    exact ⟨rfl, fun j hj => (upd_ne _ _ (by omega)).trans ((q2 j (by omega)).trans (r2 j hj)), upd_same ..⟩
  · rw [List.length_append, List.length_append, List.length_singleton] at hn
    obtain ⟨⟨r1, r2, r3⟩, r4⟩ := h3 g n s (by omega)
    have key : ∀ r : Nat × (Nat → Int32), zto n s (V g) r → zto n s (kl_join (zneg k ^^^ -1) (V g) (V' g)) (zmf g (c' ++ [zneg k]) r) ∧ zgood g (c' ++ [zneg k]) r := by
      intro r hr
      obtain ⟨r1, r2, r3⟩ := hr
      obtain ⟨r0, rs⟩ := r
      have r1 : r0 = n + 1 := r1
      subst r1
      have r3 : rs n = V g := r3
      obtain ⟨⟨q1, q2, q3⟩, q4⟩ := h3' g (n + 1) rs (by omega)
      refine ⟨?_, zgood_app g c' _ _ q4 ?_⟩
      · rw [zmf_app]
        generalize zmf g c' (n + 1, rs) = q at q1 q2 q3
        show zto n s _ (mo_step g (zop (zneg k)) (zar (zneg k)) q)
        unfold mo_step
        rw [if_neg B1, if_neg B2, if_neg B3, A5, q1, Nat.add_sub_cancel, show n + 1 + 1 - 2 = n by omega, q3, q2 n (by omega), r3]
        exact ⟨rfl, fun j hj => (upd_ne _ _ (by omega)).trans ((q2 j (by omega)).trans (r2 j hj)), upd_same ..⟩
      · refine ⟨?_, trivial⟩
        rw [q1]
        exact ⟨B0, Or.inr (Or.inr (Or.inr ⟨B1, B2, B3, by omega⟩)), by omega⟩
    obtain ⟨m1, m2⟩ := key _ ⟨r1, r2, r3⟩
    refine ⟨?_, zgood_app g c _ _ r4 m2⟩
    rw [zmf_app]
    exact m1
  · rw [List.length_append]
    omega
theorem zVal_loop {t : zTp} {P : Nat → zR} {h : Bool} {H l : Nat} (hl : l ≤ 3) (hP : ∀ a r, P a = .inr r → zVal h H r.2) : ∀ f a c r, zVal h (H + 1) c → zlp t P l f a c = .inr r → zVal h (H + 1) r.2
  | 0, a, c, r, hc, hr => by
    rw [zlp] at hr
    cases hr
    exact hc
  | f + 1, a, c, r, hc, hr => by
    rw [zlp] at hr
    split at hr
    · next hlv =>
      split at hr
      · cases hr
      · next r0 hr0 => exact zVal_loop hl hP f r0.1 _ r (zVal_two (by omega) hc (hP _ r0 hr0)) hr
    · cases hr
      exact hc
theorem zVal_lv {t : zTp} {P : Nat → zR} {h : Bool} {H : Nat} (hP : ∀ a r, P a = .inr r → zVal h H r.2) : ∀ m, m ≤ 4 → ∀ a r, zLv t P m a = .inr r → zVal h (H + m) r.2
  | 0, _, a, r, hr => hP a r hr
  | m + 1, hm, a, r, hr => by
    have ih := zVal_lv (t := t) hP m (by omega)
    rw [zLv] at hr
    unfold zlv at hr
    split at hr
    · cases hr
    · next r0 hr0 => exact zVal_loop (H := H + m) (by omega) ih _ r0.1 r0.2 r (zVal_H (by omega) (ih a r0 hr0)) hr
theorem zVal_P {t : zTp} {h : Bool} : ∀ e a r, zP t h e a = .inr r → zVal h (4 * e) r.2
  | 0, a, r, hr => by
    rw [zP] at hr
    split at hr <;> cases hr
  | e + 1, a, r, hr => by
    have ih := zVal_P (t := t) (h := h) e
    rw [zP] at hr
    split at hr
    · next hs =>
      split at hr
      · split at hr
        · cases hr
        · next r0 hr0 =>
          have := zVal_lv ih 4 (by decide) _ r0 hr0
          split at hr
          · cases hr
            exact this
          · cases hr
      · split at hr
        · split at hr
          · cases hr
          · next r0 hr0 =>
            cases hr
            exact zVal_H (by omega) (zVal_not (ih _ r0 hr0))
        · split at hr
          · next h25 =>
            cases hr
            exact zVal_num (by omega) (znb_lt h25)
          · cases hr
            unfold zstart at hs
            simp only [Bool.or_eq_true, Bool.and_eq_true, decide_eq_true_eq] at hs
            refine zVal_fact (by omega) (by omega) (fun z => ?_)
            rcases hs with hs | hs
            · omega
            · exact hs.2
    · cases hr
theorem zVal_E {t : zTp} {h : Bool} {a : Nat} {r : Nat × List Int32} (hr : zLv t (zP t h 5) 4 a = .inr r) : zVal h 24 r.2 := zVal_lv (zVal_P 5) 4 (by decide) a r hr
