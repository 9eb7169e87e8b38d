/-! tokens, as numbers -/
def zL (b : Nat) : Bool := decide (97 ≤ b ∧ b ≤ 122)
def zD (b : Nat) : Bool := decide (48 ≤ b ∧ b ≤ 57)
def zBl (b : Nat) : Bool := decide (b = 10 ∨ b = 32)
def zSn (b : Nat) : Bool := decide (b = 40 ∨ b = 41 ∨ b = 42 ∨ b = 43 ∨ b = 45 ∨ b = 59 ∨ b = 60 ∨ b = 61)
/-- behind all that has P, from i on -/
def zrun (t : zTp) (P : Nat → Bool) : Nat → Nat → Nat
  | 0, i => i
  | f + 1, i => if P (t.2 i) = true then zrun t P f (i + 1) else i
def zskip (t : zTp) (i : Nat) : Nat := zrun t zBl (t.1 - i) i
def zend (t : zTp) (P : Nat → Bool) (p : Nat) : Nat := zrun t P (t.1 - p) p
theorem zrun_ge (t : zTp) (P : Nat → Bool) : ∀ f i, i ≤ zrun t P f i ∧ zrun t P f i ≤ i + f
  | 0, i => ⟨Nat.le_refl _, Nat.le_refl _⟩
  | f + 1, i => by
    rw [zrun]
    split
    · have := zrun_ge t P f (i + 1)
      omega
    · omega
theorem zrun_in (t : zTp) (P : Nat → Bool) : ∀ f i j, i ≤ j → j < zrun t P f i → P (t.2 j) = true
  | 0, i, j, h1, h2 => by
    rw [zrun] at h2
    omega
  | f + 1, i, j, h1, h2 => by
    rw [zrun] at h2
    split at h2
    · next h =>
      by_cases e : j = i
      · rw [e]; exact h
      · exact zrun_in t P f (i + 1) j (by omega) h2
    · omega
theorem zrun_at (t : zTp) (P : Nat → Bool) : ∀ f i, zrun t P f i < i + f → P (t.2 (zrun t P f i)) = false
  | 0, i, h => by
    rw [zrun] at h
    omega
  | f + 1, i, h => by
    rw [zrun] at h ⊢
    split
    · next h2 =>
      rw [if_pos h2] at h
      exact zrun_at t P f (i + 1) (by omega)
    · next h2 => simpa using h2
/-- letters from p on, the last one first -/
def zwr (t : zTp) (p : Nat) : Nat → List Nat
  | 0 => []
  | m + 1 => t.2 (p + m) :: zwr t p m
def zv256 : List Nat → Nat
  | [] => 0
  | c :: l => zv256 l * 256 + c
def zv37 : List Nat → Nat
  | [] => 0
  | c :: l => 37 * zv37 l + (c - 96)
def zv10 (t : zTp) (p : Nat) : Nat → Nat
  | 0 => 0
  | m + 1 => zv10 t p m * 10 + (t.2 (p + m) - 48)
/-- the words, each from its last letter on -/
def zW : List (List Nat) := [[115, 108, 108, 101, 99], [114, 101, 105, 116, 114, 117, 111, 99], [116, 97], [108, 97, 121, 111, 108], [116, 97, 101, 104], [115, 101, 100, 97, 102], [115, 100, 97, 101, 114], [104, 99, 117, 111, 116], [101, 104, 116, 97, 101, 114, 98], [107, 114, 111, 102], [110, 114, 117, 116], [101, 103, 110, 97, 104, 99], [116, 97, 101, 98], [110, 105, 97, 108, 112], [110, 111, 111, 112, 115], [100, 108, 105, 104, 99], [100, 105, 97, 109], [116, 111, 110], [100, 110, 97], [114, 111], [101, 118, 97, 119], [109, 114, 97, 119], [101, 109, 105, 116], [116, 114, 97, 101, 104]]
def zfi1 (w : List Nat) : List (List Nat) → Nat → Nat
  | [], k => k
  | x :: l, k => if x = w then k else zfi1 w l (k + 1)
def zwn (w : List Nat) : Nat := zfi1 w zW 0
def zWd (w : List Nat) : Prop := w.length ≤ 8 ∧ ∀ c ∈ w, 97 ≤ c ∧ c ≤ 122
theorem zv256_inj : ∀ (a b : List Nat), (∀ c ∈ a, 97 ≤ c ∧ c ≤ 122) → (∀ c ∈ b, 97 ≤ c ∧ c ≤ 122) → zv256 a = zv256 b → a = b
  | [], [], _, _, _ => rfl
  | [], c :: l, _, hb, h => by
    have := hb c List.mem_cons_self
    rw [zv256, zv256] at h
    omega
  | c :: l, [], ha, _, h => by
    have := ha c List.mem_cons_self
    rw [zv256, zv256] at h
    omega
  | c :: l, c' :: l', ha, hb, h => by
    have h1 := ha c List.mem_cons_self
    have h2 := hb c' List.mem_cons_self
    rw [zv256, zv256] at h
    have e1 : c = c' := by omega
    have e2 : zv256 l = zv256 l' := by omega
    rw [e1, zv256_inj l l' (fun x hx => ha x (List.mem_cons_of_mem _ hx)) (fun x hx => hb x (List.mem_cons_of_mem _ hx)) e2]
theorem zv37_inj : ∀ (a b : List Nat), (∀ c ∈ a, 97 ≤ c ∧ c ≤ 122) → (∀ c ∈ b, 97 ≤ c ∧ c ≤ 122) → zv37 a = zv37 b → a = b
  | [], [], _, _, _ => rfl
  | [], c :: l, _, hb, h => by
    have := hb c List.mem_cons_self
    rw [zv37, zv37] at h
    omega
  | c :: l, [], ha, _, h => by
    have := ha c List.mem_cons_self
    rw [zv37, zv37] at h
    omega
  | c :: l, c' :: l', ha, hb, h => by
    have h1 := ha c List.mem_cons_self
    have h2 := hb c' List.mem_cons_self
    rw [zv37, zv37] at h
    have e1 : c = c' := by omega
    have e2 : zv37 l = zv37 l' := by omega
    rw [e1, zv37_inj l l' (fun x hx => ha x (List.mem_cons_of_mem _ hx)) (fun x hx => hb x (List.mem_cons_of_mem _ hx)) e2]
theorem zv256_lt : ∀ (a : List Nat), (∀ c ∈ a, 97 ≤ c ∧ c ≤ 122) → 2 * zv256 a < 2 ^ (8 * a.length)
  | [], _ => by decide
  | c :: l, ha => by
    have h1 := ha c List.mem_cons_self
    have ih := zv256_lt l (fun x hx => ha x (List.mem_cons_of_mem _ hx))
    rw [zv256, List.length_cons, Nat.mul_add 8, Nat.pow_add, show 2 ^ (8 * 1) = 256 from rfl]
    omega
theorem zv256_63 {a : List Nat} (h : zWd a) : zv256 a < 2 ^ 63 := by
  have h1 := zv256_lt a h.2
  have h2 : 2 ^ (8 * a.length) ≤ 2 ^ 64 := Nat.pow_le_pow_right (by decide) (by have := h.1; omega)
  omega
theorem zv37_63 {a : List Nat} : a.length ≤ 8 → (∀ c ∈ a, 97 ≤ c ∧ c ≤ 122) → zv37 a < 37 ^ a.length := by
  intro _ h2
  induction a with
  | nil => decide
  | cons c l ih =>
    have h3 := h2 c List.mem_cons_self
    have ih := ih (by rename_i h; rw [List.length_cons] at h; omega) (fun x hx => h2 x (List.mem_cons_of_mem _ hx))
    rw [zv37, List.length_cons, Nat.pow_succ]
    omega
theorem zfi1_sp (w : List Nat) : ∀ (l : List (List Nat)) k, (∃ i, i < l.length ∧ l[i]? = some w ∧ zfi1 w l k = k + i) ∨ ((∀ x ∈ l, ¬ x = w) ∧ zfi1 w l k = k + l.length)
  | [], k => Or.inr ⟨fun x hx => by simp at hx, rfl⟩
  | x :: l, k => by
    rw [zfi1]
    by_cases e : x = w
    · rw [if_pos e]
      exact Or.inl ⟨0, by simp, by simp [e], rfl⟩
    · rw [if_neg e]
      rcases zfi1_sp w l (k + 1) with ⟨i, h1, h2, h3⟩ | ⟨h1, h2⟩
      · exact Or.inl ⟨i + 1, by simp; omega, by simpa using h2, by omega⟩
      · refine Or.inr ⟨fun y hy => ?_, by rw [h2, List.length_cons]; omega⟩
        rcases List.mem_cons.mp hy with rfl | hy
        · exact e
        · exact h1 y hy
theorem zwn_le (w : List Nat) : zwn w ≤ 24 := by
  rcases zfi1_sp w zW 0 with ⟨i, h1, h2, h3⟩ | ⟨h1, h2⟩
  · have : zW.length = 24 := rfl
    unfold zwn
    omega
  · have : zW.length = 24 := rfl
    unfold zwn
    omega
/-- what a word is, by its number -/
theorem zwn_iff {w : List Nat} {k : Nat} (hk : k < 24) : zwn w = k ↔ zW[k]? = some w := by
  have hl : zW.length = 24 := rfl
  have hinj : ∀ i j : Fin 24, zW[i.val]? = zW[j.val]? → i = j := by decide +kernel
  rcases zfi1_sp w zW 0 with ⟨i, h1, h2, h3⟩ | ⟨h1, h2⟩
  · unfold zwn
    rw [h3]
    constructor
    · intro e
      rw [← e, Nat.zero_add]
      exact h2
    · intro e
      have := hinj ⟨i, by omega⟩ ⟨k, hk⟩ (by dsimp only; rw [h2, e])
      have := congrArg Fin.val this
      dsimp only at this
      omega
  · unfold zwn
    rw [h2]
    constructor
    · intro e
      omega
    · intro e
      exact absurd rfl (h1 w (List.mem_of_getElem? e))
/-- one token: kind, place, what comes behind it -/
def zkind (t : zTp) (p : Nat) : Nat := if t.1 ≤ p then 26 else if zL (t.2 p) = true then (if 8 < zend t zL p - p then 27 else zwn (zwr t p (zend t zL p - p))) else if zD (t.2 p) = true then (if 4 < zend t zD p - p then 27 else 25) else if zSn (t.2 p) = true then t.2 p else 27
def znx (t : zTp) (p : Nat) : Nat := if t.1 ≤ p then p else if zL (t.2 p) = true then zend t zL p else if zD (t.2 p) = true then zend t zD p else p + 1
/-- where the reading of the token a begins -/
def zpos (t : zTp) : Nat → Nat
  | 0 => 0
  | a + 1 => znx t (zskip t (zpos t a))
def zpl (t : zTp) (a : Nat) : Nat := zskip t (zpos t a)
def zkd (t : zTp) (a : Nat) : Nat := zkind t (zpl t a)
def znb (t : zTp) (a : Nat) : Nat := zv10 t (zpl t a) (zend t zD (zpl t a) - zpl t a)
def zwd (t : zTp) (a : Nat) : List Nat := zwr t (zpl t a) (zend t zL (zpl t a) - zpl t a)
theorem zskip_le {t : zTp} {i : Nat} (h : i ≤ t.1) : i ≤ zskip t i ∧ zskip t i ≤ t.1 := by
  have := zrun_ge t zBl (t.1 - i) i
  unfold zskip
  omega
theorem zend_le {t : zTp} {P : Nat → Bool} {p : Nat} (h : p ≤ t.1) : p ≤ zend t P p ∧ zend t P p ≤ t.1 := by
  have := zrun_ge t P (t.1 - p) p
  unfold zend
  omega
theorem znx_le {t : zTp} {p : Nat} (h : p ≤ t.1) : p ≤ znx t p ∧ znx t p ≤ t.1 := by
  unfold znx
  split
  · omega
  · split
    · exact zend_le h
    · split
      · exact zend_le h
      · omega
theorem zpos_le (t : zTp) : ∀ a, zpos t a ≤ t.1
  | 0 => Nat.zero_le _
  | a + 1 => (znx_le (zskip_le (zpos_le t a)).2).2
theorem zpl_le (t : zTp) (a : Nat) : zpl t a ≤ t.1 := (zskip_le (zpos_le t a)).2
theorem zend_gt {t : zTp} {P : Nat → Bool} {p : Nat} (h : p < t.1) (hP : P (t.2 p) = true) : p < zend t P p := by
  unfold zend
  obtain ⟨f, hf⟩ : ∃ f, t.1 - p = f + 1 := ⟨t.1 - p - 1, by omega⟩
  rw [hf, zrun, if_pos hP]
  have := zrun_ge t P f (p + 1)
  omega
theorem znx_gt {t : zTp} {p : Nat} (h : p < t.1) : p < znx t p := by
  unfold znx
  rw [if_neg (by omega)]
  split
  · next h1 => exact zend_gt h h1
  · split
    · next h1 => exact zend_gt h h1
    · omega
/-- as long as no end is come to, every token takes a sign -/
theorem zpos_ge (t : zTp) : ∀ a, (∀ b, b < a → zpl t b < t.1) → a ≤ zpos t a
  | 0, _ => Nat.zero_le _
  | a + 1, h => by
    have ih := zpos_ge t a (fun b hb => h b (by omega))
    have h1 := h a (by omega)
    have h2 := (zskip_le (zpos_le t a)).1
    have h3 := znx_gt h1
    rw [zpos]
    unfold zpl at h1 h3
    omega
theorem zkd_end {t : zTp} {a : Nat} : zkd t a = 26 ↔ t.1 ≤ zpl t a := by
  unfold zkd zkind
  constructor
  · intro h
    by_cases e : t.1 ≤ zpl t a
    · exact e
    · rw [if_neg e] at h
      exfalso
      split at h
      · split at h
        · omega
        · have := zwn_le (zwr t (zpl t a) (zend t zL (zpl t a) - zpl t a))
          omega
      · split at h
        · split at h <;> omega
        · split at h
          · next h5 =>
            unfold zSn at h5
            simp at h5
            omega
          · omega
  · intro h
    rw [if_pos h]
/-- a word's letters -/
theorem zwr_in {t : zTp} {p : Nat} : ∀ m, (∀ j, j < m → zL (t.2 (p + j)) = true) → ∀ c ∈ zwr t p m, 97 ≤ c ∧ c ≤ 122
  | 0, _, c, hc => by simp [zwr] at hc
  | m + 1, h, c, hc => by
    rw [zwr] at hc
    rcases List.mem_cons.mp hc with rfl | hc
    · have := h m (by omega)
      unfold zL at this
      simpa using this
    · exact zwr_in m (fun j hj => h j (by omega)) c hc
theorem zwr_len (t : zTp) (p : Nat) : ∀ m, (zwr t p m).length = m
  | 0 => rfl
  | m + 1 => by rw [zwr, List.length_cons, zwr_len t p m]
theorem zwd_ok {t : zTp} {a : Nat} (h : zkd t a ≤ 24) : zpl t a < t.1 ∧ zL (t.2 (zpl t a)) = true ∧ zend t zL (zpl t a) - zpl t a ≤ 8 ∧ zWd (zwd t a) ∧ zkd t a = zwn (zwd t a) := by
  unfold zkd zkind at h ⊢
  by_cases e : t.1 ≤ zpl t a
  · rw [if_pos e] at h
    omega
  · rw [if_neg e] at h ⊢
    by_cases h1 : zL (t.2 (zpl t a)) = true
    · rw [if_pos h1] at h ⊢
      by_cases h2 : 8 < zend t zL (zpl t a) - zpl t a
      · rw [if_pos h2] at h
        omega
      · rw [if_neg h2]
        refine ⟨by omega, h1, by omega, ⟨?_, zwr_in _ (fun j hj => ?_)⟩, rfl⟩
        · unfold zwd
          rw [zwr_len]
          omega
        · exact zrun_in t zL (t.1 - zpl t a) (zpl t a) (zpl t a + j) (by omega) (by unfold zend at hj; omega)
    · rw [if_neg h1] at h
      exfalso
      split at h
      · split at h <;> omega
      · split at h
        · next h5 =>
          unfold zSn at h5
          simp at h5
          omega
        · omega
