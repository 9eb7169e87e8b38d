/-! numbers; the rows fa_and .. fa_or_sum are the kit's own to-paste rows -/
theorem fa_and (a b : Nat) : nI a &&& nI b = nI (a &&& b) := by
  apply Int32.toBitVec_inj.1
  show BitVec.ofNat 32 a &&& BitVec.ofNat 32 b = BitVec.ofNat 32 (a &&& b)
  apply BitVec.eq_of_getLsbD_eq
  intro i hi
  simp [hi]
theorem fa_or (a b : Nat) : nI a ||| nI b = nI (a ||| b) := by
  apply Int32.toBitVec_inj.1
  show BitVec.ofNat 32 a ||| BitVec.ofNat 32 b = BitVec.ofNat 32 (a ||| b)
  apply BitVec.eq_of_getLsbD_eq
  intro i hi
  simp [hi]
theorem kn_xor (a b : Nat) : nI a ^^^ nI b = nI (a ^^^ b) := by
  apply Int32.toBitVec_inj.1
  show BitVec.ofNat 32 a ^^^ BitVec.ofNat 32 b = BitVec.ofNat 32 (a ^^^ b)
  apply BitVec.eq_of_getLsbD_eq
  intro i hi
  simp [hi]
theorem fa_mask (n k : Nat) : nI n &&& nI (2 ^ k - 1) = nI (n % 2 ^ k) := by rw [fa_and, Nat.and_two_pow_sub_one_eq_mod]
theorem fa_or_sum {a k : Nat} (b : Nat) (h : a < 2 ^ k) : nI (2 ^ k * b) ||| nI a = nI (2 ^ k * b + a) := by rw [fa_or, Nat.two_pow_add_eq_or_of_lt h]
theorem kn_add (a b : Nat) : nI a + nI b = nI (a + b) := by
  unfold nI
  rw [Int32.ofNat_add]
theorem kn_mul (a b : Nat) : nI a * nI b = nI (a * b) := by
  unfold nI
  rw [Int32.ofNat_mul]
theorem kn_inj {a b : Nat} (ha : a < 2 ^ 31) (hb : b < 2 ^ 31) (h : nI a = nI b) : a = b := by
  have := congrArg Int32.toInt h
  rw [nI_toInt ha, nI_toInt hb] at this
  omega
theorem kn_shr {a k : Nat} (ha : a < 2 ^ 31) (hk : k < 31) : nI a >>> (nI k &&& 31) = nI (a / 2 ^ k) := by
  have hd : a / 2 ^ k ≤ a := Nat.div_le_self _ _
  have hD : ((nI k &&& 31).toBitVec.smod 32).toNat = k := by
    have : ∀ k, k < 31 → ((nI k &&& 31).toBitVec.smod 32).toNat = k := by decide +kernel
    exact this k hk
  apply Int32.toInt_inj.mp
  have e : (nI a >>> (nI k &&& 31)).toInt = (nI a).toInt >>> k := by
    conv => rhs; rw [← hD]
    exact BitVec.toInt_sshiftRight ..
  rw [e, Int.shiftRight_eq_div_pow, nI_toInt ha, nI_toInt (by omega)]
  rfl
theorem kn_shl7 (a : Nat) : nI a <<< ((7 : Int32) &&& 31) = nI (128 * a) := by
  apply Int32.toBitVec_inj.mp
  rw [Int32.toBitVec_shiftLeft]
  have h7 : ((7 : Int32) &&& 31).toBitVec.smod 32 = BitVec.ofNat 32 7 := by decide
  rw [h7]
  show BitVec.ofNat 32 a <<< BitVec.ofNat 32 7 = BitVec.ofNat 32 (128 * a)
  apply BitVec.eq_of_toNat_eq
  simp only [BitVec.shiftLeft_eq', BitVec.toNat_shiftLeft, BitVec.toNat_ofNat, Nat.shiftLeft_eq]
  rw [show 2 ^ (7 % 2 ^ 32) = 128 by decide]
  omega
theorem kn_fm {a m : Nat} (ha : a < 2 ^ 31) (h0 : 0 < m) (hm : m < 2 ^ 31) : kx_fm (nI a) (nI m) = nI (a % m) := by
  unfold kx_fm
  rw [kn_xor, if_neg (nI_pos (Nat.xor_lt_two_pow ha hm)), pk_rem ha h0 hm]
/-- kept within 0 to 99 -/
theorem kl_val_in (R : Nat × (Nat → Int32)) : ∃ v, v ≤ 99 ∧ kl_val R = nI v := by
  unfold kl_val
  split
  · unfold kx_max kx_min
    generalize R.2 0 = x
    by_cases h : x < 99
    · rw [if_pos h]
      by_cases h2 : 0 < x
      · rw [if_pos h2]
        rw [Int32.lt_iff_toInt_lt] at h h2
        have e99 : (99 : Int32).toInt = 99 := rfl
        have e0 : (0 : Int32).toInt = 0 := rfl
        rw [e99] at h
        rw [e0] at h2
        refine ⟨x.toInt.toNat, by omega, ?_⟩
        apply Int32.toInt_inj.mp
        rw [nI_toInt (by omega)]
        omega
      · rw [if_neg h2]
        exact ⟨0, by omega, rfl⟩
    · rw [if_neg h]
      exact ⟨99, by omega, rfl⟩
  · exact ⟨0, by omega, rfl⟩
/-- a law's code and what it comes to -/
def kl_ok (code : Nat → Int32) (a b : Nat) (F : Int32 → Int32 → Int32 → Int32 → Int32) : Prop := a ≤ b ∧ b ≤ 1000 ∧ ∀ s g x0 x1 x2 x3, kl_val (kl_run (kl_g g x0 x1 x2 x3) code a s (b - a)) = F x0 x1 x2 x3
theorem kl_ok_in {code : Nat → Int32} {a b : Nat} {F : Int32 → Int32 → Int32 → Int32 → Int32} (h : kl_ok code a b F) (x0 x1 x2 x3 : Int32) : ∃ v, v ≤ 99 ∧ F x0 x1 x2 x3 = nI v := by
  obtain ⟨v, h1, h2⟩ := kl_val_in (kl_run (kl_g (fun _ => 0) x0 x1 x2 x3) code a (fun _ => 0) (b - a))
  exact ⟨v, h1, by rw [← h.2.2 (fun _ => 0) (fun _ => 0) x0 x1 x2 x3]; exact h2⟩
