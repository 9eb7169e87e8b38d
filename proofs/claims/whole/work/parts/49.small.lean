/-! the reference: small askings -/
theorem kx_ring_mod {k i : Nat} (hk : k ≤ 12) (hi : i < k) : ∀ m, kx_ring k (nI i) m = nI ((i + m) % k)
  | 0 => by
    rw [kx_ring, Nat.add_zero, Nat.mod_eq_of_lt hi]
  | m + 1 => by
    have hlt : (i + m) % k < k := Nat.mod_lt _ (by omega)
    rw [kx_ring, kx_ring_mod hk hi m, kx_behind_nI hk hlt]
    congr 1
    have e : (i + (m + 1)) % k = ((i + m) % k + 1) % k := by
      rw [← Nat.add_assoc, Nat.add_mod, Nat.add_mod ((i + m) % k) 1, Nat.mod_mod]
    rw [e]
    split
    · next h => exact (Nat.mod_eq_of_lt h).symm
    · next h => rw [show (i + m) % k + 1 = k by omega, Nat.mod_self]
def zq_arc (k : Nat) (sh : Nat → Int32) (c m : Int32) : Int32 := if kx_cell k c = true ∧ kx_in m 1 (nI k) = true then kx_arc k sh c m.toNatClampNeg else -1
def zq_shake (k : Nat) (cr : Int32) (sh : Nat → Int32) (c : Int32) : Int32 := if kx_op k cr c = true then sh c.toNatClampNeg else -1
def zq_court (p : Nat) (kd ht pl dn : Nat → Int32) (i wh : Int32) : Int32 := if kx_cell p i = true ∧ kx_in wh 0 3 = true then (if wh = 0 then kd i.toNatClampNeg - 13 else if wh = 1 then pl i.toNatClampNeg else if wh = 2 then ht i.toNatClampNeg else dn i.toNatClampNeg) else -2
def zht (p : Nat) (ht : Nat → Int32) : Prop := ∀ i, i < p → ∃ v, v ≤ 9 ∧ ht i = nI v
def kx_part (ht : Nat → Int32) (much loyal : Int32) (i : Nat) : Int32 := if 0 < loyal then much * ht i / loyal else 0
def kx_left (ht : Nat → Int32) (much loyal : Int32) : Nat → Int32
  | 0 => much
  | m + 1 => kx_left ht much loyal m - kx_part ht much loyal m
def zq_share (p : Nat) (ht : Nat → Int32) (c much : Int32) : Int32 := if kx_cell p c = true ∧ kx_in much 1 99 = true then kx_part ht much (kx_sum ht p) c.toNatClampNeg + kx_left ht much (kx_sum ht p) p / nI p + (if c < kx_left ht much (kx_sum ht p) p - kx_left ht much (kx_sum ht p) p / nI p * nI p then 1 else 0) else -1
theorem kx_loud_sp {sh : Nat → Int32} : ∀ m, m ≤ 12 → ((kx_loud sh m).2 = -1 ∧ (kx_loud sh m).1 = 0 ∨ ∃ c, c < m ∧ (kx_loud sh m).2 = nI c ∧ sh c = (kx_loud sh m).1) ∧ ∀ c, c < m → sh c ≤ (kx_loud sh m).1
  | 0, _ => ⟨Or.inl ⟨rfl, rfl⟩, fun c hc => by omega⟩
  | m + 1, hm => by
    obtain ⟨h1, h2⟩ := kx_loud_sp (sh := sh) m (by omega)
    rw [kx_loud]
    split
    · next hlt =>
      refine ⟨Or.inr ⟨m, by omega, rfl, rfl⟩, fun c hc => ?_⟩
      by_cases e : c = m
      · rw [e]
        exact Int32.le_refl _
      · have := h2 c (by omega)
        show sh c ≤ sh m
        rw [Int32.lt_iff_toInt_lt] at hlt
        rw [Int32.le_iff_toInt_le] at *
        omega
    · next hlt =>
      refine ⟨?_, fun c hc => ?_⟩
      · rcases h1 with h1 | ⟨c, hc, h3, h4⟩
        · exact Or.inl h1
        · exact Or.inr ⟨c, by omega, h3, h4⟩
      · by_cases e : c = m
        · rw [e]
          rw [kx_nlt] at hlt
          exact hlt
        · exact h2 c (by omega)
theorem kx_quiet_sp {cr : Int32} {sh : Nat → Int32} : ∀ m, m ≤ 12 → (kx_quiet cr sh m = -1 → ∀ c, c < m → kx_ck cr (nI c) = true)
  | 0, _ => fun _ c hc => by omega
  | m + 1, hm => by
    have ih := kx_quiet_sp (cr := cr) (sh := sh) m (by omega)
    rw [kx_quiet]
    split
    · intro h
      exact absurd h (mx_n1 (by omega))
    · next hno =>
      intro h c hc
      by_cases e : c = m
      · rw [e]
        cases h9 : kx_ck cr (nI m)
        · exact absurd ⟨h9, Or.inl h⟩ hno
        · rfl
      · exact ih h c (by omega)
def mo_ls (cr : Int32) (sh : Nat → Int32) (m : Nat) : Int32 := if kx_quiet cr sh m = -1 then 99 else sh (kx_quiet cr sh m).toNatClampNeg
theorem mx_range {k p C : Nat} {sh pl : Nat → Int32} (hk : k ≤ 12) (hv : zv k p C sh pl) : (if (kx_loud sh k).1 < mo_ls (nI C) sh k then 0 else (kx_loud sh k).1 - mo_ls (nI C) sh k) = kx_range k (nI C) sh := by
  obtain ⟨h1, h2⟩ := kx_loud_sp (sh := sh) k hk
  unfold kx_range mo_ls
  by_cases hq : kx_quiet (nI C) sh k = -1
  · rw [if_pos hq, if_pos (Or.inl hq)]
    have hall := kx_quiet_sp k hk hq
    have hz : ∀ c, c < k → sh c = 0 := fun c hc => hv.2.2.2 c hc (by rw [← kc_ck (C := C) (i := c) (by omega)]; exact hall c hc)
    have h0 : (kx_loud sh k).1 = 0 := by
      rcases h1 with h1 | ⟨c, hc, h3, h4⟩
      · exact h1.2
      · rw [← h4, hz c hc]
    rw [h0, if_pos (by decide)]
  · rw [if_neg hq]
    rcases kx_quiet_in (nI C) sh k hk with h9 | ⟨c, hc, h9⟩
    · exact absurd h9 hq
    rw [h9, nI_clamp (by omega)]
    have hle := h2 c hc
    rw [if_neg (by rw [kx_nlt]; exact hle)]
    rcases h1 with h1 | ⟨c2, hc2, h3, h4⟩
    · rw [if_pos (Or.inr h1.1)]
      rw [h1.2] at hle ⊢
      obtain ⟨v, hv2, ev⟩ := hv.1 c (by omega)
      rw [ev, Int32.le_iff_toInt_le, nI_toInt (by omega)] at hle
      have e0 : (0 : Int32).toInt = 0 := rfl
      rw [ev, show v = 0 by omega]
      rfl
    · rw [if_neg (by rintro (z | z); exact mx_n1 (c := c) (by omega) z; rw [h3] at z; exact mx_n1 (c := c2) (by omega) z), h3, nI_clamp (by omega), h4]
/-! the widest calm -/
def kq_rn (Z : Nat → Bool) : Nat → Nat
  | 0 => 0
  | m + 1 => if Z m = true then kq_rn Z m + 1 else 0
def kq_wd (Z : Nat → Bool) : Nat → Nat
  | 0 => 0
  | m + 1 => max (kq_wd Z m) (kq_rn Z (m + 1))
def kq_lg (Z : Nat → Bool) (c : Nat) : Nat → Nat → Nat
  | 0, n => n
  | f + 1, n => if Z (c + n) = true then kq_lg Z c f (n + 1) else n
def kq_mx (Z : Nat → Bool) (k : Nat) : Nat → Nat
  | 0 => 0
  | m + 1 => max (kq_mx Z k m) (kq_lg Z m k 0)
theorem kq_rn_sp {Z : Nat → Bool} {r : Nat} : ∀ m, (r ≤ kq_rn Z m ↔ r ≤ m ∧ ∀ j, m ≤ j + r → j < m → Z j = true) := by
  intro m
  induction m generalizing r with
  | zero =>
    rw [kq_rn]
    exact ⟨fun h => ⟨h, fun j _ hj => by omega⟩, fun h => h.1⟩
  | succ m ih =>
    rw [kq_rn]
    cases r with
    | zero => exact ⟨fun _ => ⟨Nat.zero_le _, fun j h1 h2 => by omega⟩, fun _ => Nat.zero_le _⟩
    | succ r =>
      by_cases hZ : Z m = true
      · rw [if_pos hZ, Nat.add_le_add_iff_right, ih]
        constructor
        · rintro ⟨h1, h2⟩
          refine ⟨by omega, fun j h3 h4 => ?_⟩
          by_cases e : j = m
          · rw [e]; exact hZ
          · exact h2 j (by omega) (by omega)
        · rintro ⟨h1, h2⟩
          exact ⟨by omega, fun j h3 h4 => h2 j (by omega) (by omega)⟩
      · rw [if_neg hZ]
        constructor
        · intro h
          omega
        · rintro ⟨h1, h2⟩
          exact absurd (h2 m (by omega) (by omega)) hZ
theorem kq_wd_sp {Z : Nat → Bool} {r : Nat} : ∀ m, (r ≤ kq_wd Z m ↔ r = 0 ∨ ∃ i, i ≤ m ∧ r ≤ kq_rn Z i)
  | 0 => by
    rw [kq_wd]
    constructor
    · intro h
      exact Or.inl (by omega)
    · rintro (h | ⟨i, h1, h2⟩)
      · omega
      · have : i = 0 := by omega
        subst this
        exact h2
  | m + 1 => by
    rw [kq_wd, show r ≤ max (kq_wd Z m) (kq_rn Z (m + 1)) ↔ r ≤ kq_wd Z m ∨ r ≤ kq_rn Z (m + 1) from by omega, kq_wd_sp m]
    constructor
    · rintro ((h | ⟨i, h1, h2⟩) | h)
      · exact Or.inl h
      · exact Or.inr ⟨i, by omega, h2⟩
      · exact Or.inr ⟨m + 1, Nat.le_refl _, h⟩
    · rintro (h | ⟨i, h1, h2⟩)
      · exact Or.inl (Or.inl h)
      · by_cases e : i = m + 1
        · subst e
          exact Or.inr h2
        · exact Or.inl (Or.inr ⟨i, by omega, h2⟩)
theorem kq_lg_sp {Z : Nat → Bool} {c r : Nat} : ∀ f n, (∀ j, j < n → Z (c + j) = true) → (r ≤ kq_lg Z c f n ↔ r ≤ n + f ∧ ∀ j, j < r → Z (c + j) = true)
  | 0, n, hn => ⟨fun h => ⟨h, fun j hj => hn j (Nat.lt_of_lt_of_le hj h)⟩, fun h => h.1⟩
  | f + 1, n, hn => by
    rw [kq_lg]
    by_cases hZ : Z (c + n) = true
    · rw [if_pos hZ, kq_lg_sp f (n + 1) (fun j hj => by
        by_cases e : j = n
        · rw [e]; exact hZ
        · exact hn j (by omega))]
      constructor
      · rintro ⟨h1, h2⟩
        exact ⟨by omega, h2⟩
      · rintro ⟨h1, h2⟩
        exact ⟨by omega, h2⟩
    · rw [if_neg hZ]
      constructor
      · intro h
        exact ⟨by omega, fun j hj => hn j (by omega)⟩
      · rintro ⟨h1, h2⟩
        by_cases e : r ≤ n
        · exact e
        · exact absurd (h2 n (by omega)) hZ
theorem kq_mx_sp {Z : Nat → Bool} {k r : Nat} : ∀ m, (r ≤ kq_mx Z k m ↔ r = 0 ∨ ∃ c, c < m ∧ r ≤ kq_lg Z c k 0)
  | 0 => by
    rw [kq_mx]
    constructor
    · intro h
      exact Or.inl (by omega)
    · rintro (h | ⟨i, h1, h2⟩) <;> omega
  | m + 1 => by
    rw [kq_mx, show r ≤ max (kq_mx Z k m) (kq_lg Z m k 0) ↔ r ≤ kq_mx Z k m ∨ r ≤ kq_lg Z m k 0 from by omega, kq_mx_sp m]
    constructor
    · rintro ((h | ⟨i, h1, h2⟩) | h)
      · exact Or.inl h
      · exact Or.inr ⟨i, by omega, h2⟩
      · exact Or.inr ⟨m, by omega, h⟩
    · rintro (h | ⟨i, h1, h2⟩)
      · exact Or.inl (Or.inl h)
      · by_cases e : i = m
        · subst e
          exact Or.inr h2
        · exact Or.inl (Or.inr ⟨i, by omega, h2⟩)
theorem kq_eq {Z : Nat → Bool} {k : Nat} (hk : 0 < k) (hZ : ∀ j, Z (j + k) = Z j) : min (kq_wd Z (2 * k)) k = kq_mx Z k k := by
  have hmod : ∀ j, Z j = Z (j % k) := by
    intro j
    have : ∀ q r, Z (r + k * q) = Z r := by
      intro q
      induction q with
      | zero => intro r; rw [Nat.mul_zero, Nat.add_zero]
      | succ q ih => intro r; rw [Nat.mul_succ, ← Nat.add_assoc, hZ, ih]
    have h := this (j / k) (j % k)
    rw [Nat.mod_add_div] at h
    exact h
  have key : ∀ r, r ≤ min (kq_wd Z (2 * k)) k ↔ r ≤ kq_mx Z k k := by
    intro r
    rw [Nat.le_min, kq_wd_sp, kq_mx_sp]
    constructor
    · rintro ⟨h | ⟨i, h1, h2⟩, h3⟩
      · exact Or.inl h
      · by_cases h0 : r = 0
        · exact Or.inl h0
        · right
          obtain ⟨h4, h5⟩ := (kq_rn_sp i).mp h2
          refine ⟨(i - r) % k, Nat.mod_lt _ hk, (kq_lg_sp k 0 (fun j hj => by omega)).mpr ⟨by omega, fun j hj => ?_⟩⟩
          have h6 := h5 (i - r + j) (by omega) (by omega)
          rw [hmod] at h6 ⊢
          rw [Nat.add_mod, Nat.mod_mod, ← Nat.add_mod]
          exact h6
    · rintro (h | ⟨c, h1, h2⟩)
      · exact ⟨Or.inl h, by omega⟩
      · obtain ⟨h3, h4⟩ := (kq_lg_sp k 0 (fun j hj => by omega)).mp h2
        refine ⟨Or.inr ⟨c + r, by omega, (kq_rn_sp (c + r)).mpr ⟨by omega, fun j h5 h6 => ?_⟩⟩, by omega⟩
        have h7 := h4 (j - c) (by omega)
        rw [show c + (j - c) = j by omega] at h7
        exact h7
  exact Nat.le_antisymm ((key _).mp (Nat.le_refl _)) ((key _).mpr (Nat.le_refl _))
def kq_Z (k : Nat) (sh : Nat → Int32) (j : Nat) : Bool := decide (sh (j % k) = 0)
theorem kq_pos {sh : Nat → Int32} {c : Nat} (h : ks sh) (hc : c < 12) : (0 < sh c) = ¬ sh c = 0 := by
  obtain ⟨v, hv, ev⟩ := h c hc
  rw [ev]
  have : ∀ v : Fin 100, (0 < nI v.val) = ¬ nI v.val = 0 := by decide +kernel
  exact this ⟨v, by omega⟩
theorem kq_rn_le {Z : Nat → Bool} : ∀ m, kq_rn Z m ≤ m
  | 0 => Nat.le_refl _
  | m + 1 => by
    have := kq_rn_le (Z := Z) m
    rw [kq_rn]
    split <;> omega
theorem kq_wd_le {Z : Nat → Bool} : ∀ m, kq_wd Z m ≤ m
  | 0 => Nat.le_refl _
  | m + 1 => by
    have := kq_wd_le (Z := Z) m
    have := kq_rn_le (Z := Z) (m + 1)
    rw [kq_wd]
    omega
theorem kq_calm {k : Nat} {sh : Nat → Int32} (hk : k ≤ 12) (hk0 : 0 < k) (hs : ks sh) : ∀ m, m ≤ 2 * k → (kx_calm k sh m).1 = nI (kq_wd (kq_Z k sh) m) ∧ (kx_calm k sh m).2 = nI (kq_rn (kq_Z k sh) m)
  | 0, _ => ⟨rfl, rfl⟩
  | m + 1, hm => by
    obtain ⟨h1, h2⟩ := kq_calm hk hk0 hs m (by omega)
    have e : (if m < k then m else m - k) = m % k := by
      split
      · rw [Nat.mod_eq_of_lt (by omega)]
      · rw [Nat.mod_eq_sub_mod (by omega), Nat.mod_eq_of_lt (by omega)]
    have hlt : m % k < k := Nat.mod_lt _ hk0
    have hr : (if 0 < sh (m % k) then (0 : Int32) else (kx_calm k sh m).2 + 1) = nI (kq_rn (kq_Z k sh) (m + 1)) := by
      rw [kq_rn, h2]
      by_cases h0 : sh (m % k) = 0
      · rw [if_neg (by rw [h0]; decide), if_pos (by unfold kq_Z; exact decide_eq_true h0)]
        exact (nI_succ _).symm
      · rw [if_pos (by rw [kq_pos hs (by omega)]; exact h0), if_neg (by unfold kq_Z; simp [h0])]
        rfl
    have hle := kq_rn_le (Z := kq_Z k sh) (m + 1)
    have hle2 := kq_wd_le (Z := kq_Z k sh) m
    rw [kx_calm, e]
    dsimp only
    rw [hr, h1]
    refine ⟨?_, rfl⟩
    rw [kq_wd]
    unfold kx_max
    by_cases h3 : kq_wd (kq_Z k sh) m < kq_rn (kq_Z k sh) (m + 1)
    · rw [if_pos (nI_lt h3 (by omega)), Nat.max_eq_right (by omega)]
    · rw [if_neg (nI_nlt (by omega) (by omega)), Nat.max_eq_left (by omega)]
theorem mx_calm {k : Nat} {sh : Nat → Int32} (hk : k ≤ 12) (hk0 : 0 < k) (hs : ks sh) : kx_min (kx_calm k sh (2 * k)).1 (nI k) = nI (kq_mx (kq_Z k sh) k k) := by
  rw [(kq_calm hk hk0 hs (2 * k) (Nat.le_refl _)).1, ← kq_eq hk0 (fun j => by unfold kq_Z; rw [Nat.add_mod_right])]
  have hle2 := kq_wd_le (Z := kq_Z k sh) (2 * k)
  unfold kx_min
  by_cases h : k < kq_wd (kq_Z k sh) (2 * k)
  · rw [if_pos (nI_lt h (by omega)), Nat.min_eq_right (by omega)]
  · rw [if_neg (nI_nlt (by omega) (by omega)), Nat.min_eq_left (by omega)]
