/-! tools of the small machine -/
theorem ax_J_monoQ {P P' : ax_P} {Q Q' : ax_Q} {d nb sb M : Nat} {t : Int} {ls : ax_L} {st : List Value} {n sl : Nat} {es : ax_H} (hPQ : ∀ d nb sb M code pc ls st n sl es, P d nb sb M code pc ls st n sl es Q → P' d nb sb M code pc ls st n sl es Q') : ax_J P d nb sb M t ls st n sl es Q → ax_J P' d nb sb M t ls st n sl es Q' :=
  fun ⟨code, a, b⟩ => ⟨code, a, hPQ _ _ _ _ _ _ _ _ _ _ _ b⟩
set_option maxHeartbeats 4000000 in
theorem ax_I_monoQ {P P' : ax_P} {Q Q' : ax_Q} {K K' : ax_K} {d nb sb M : Nat} {i : Instr} {ls : ax_L} {st : List Value} {n sl : Nat} {es : ax_H} (hPQ : ∀ d nb sb M code pc ls st n sl es, P d nb sb M code pc ls st n sl es Q → P' d nb sb M code pc ls st n sl es Q') (hP : ∀ d nb sb M code pc ls st n sl es R, P d nb sb M code pc ls st n sl es R → P' d nb sb M code pc ls st n sl es R) (hQ : ∀ r n sl es, Q r n sl es → Q' r n sl es) (hK : ∀ ls st n sl es, K ls st n sl es → K' ls st n sl es) : ax_I P d nb sb M i ls st n sl es Q K → ax_I P' d nb sb M i ls st n sl es Q' K' := by
  cases i <;> dsimp only [ax_I]
  all_goals
    repeat' first
      | exact id
      | exact hK _ _ _ _ _
      | exact hQ _ _ _ _
      | exact ax_J_monoQ hPQ
      | exact ax_ii_mono (fun _ => hK _ _ _ _ _)
      | exact ax_ll_mono (fun _ => hK _ _ _ _ _)
      | exact ax_li_mono (fun _ => hK _ _ _ _ _)
      | exact ax_inv_mono hP (fun _ _ _ _ => hK _ _ _ _ _)
      | exact ax_bi_mono hK
      | exact And.imp (ax_imp (ax_J_monoQ hPQ)) (ax_imp (hK _ _ _ _ _))
      | refine And.imp (ax_imp (ax_J_monoQ hPQ)) (ax_imp ?_)
      | refine And.imp_right ?_
      | split
theorem ax_W_mono {d nb sb M : Nat} {code : List (Nat × Instr)} {pc : Nat} {ls : ax_L} {st : List Value} {n sl : Nat} {es : ax_H} {Q Q' : ax_Q} (h : ax_W d nb sb M code pc ls st n sl es Q) (hQ : ∀ r n sl es, Q r n sl es → Q' r n sl es) : ax_W d nb sb M code pc ls st n sl es Q' := by
  refine h (fun d nb sb M code pc ls st n sl es Q => ∀ Q' : ax_Q, (∀ r n sl es, Q r n sl es → Q' r n sl es) → ax_W d nb sb M code pc ls st n sl es Q') ?_ Q' hQ
  intro d nb sb M code pc ls st n sl es Q hF Q' hQ
  apply ax_W_fold
  cases code with
  | nil =>
    obtain ⟨code, a, b⟩ := hF
    exact ⟨code, a, b Q' hQ⟩
  | cons a rest =>
    obtain ⟨len, i⟩ := a
    have hF : ax_I (fun d nb sb M code pc ls st n sl es Q => ∀ Q' : ax_Q, (∀ r n sl es, Q r n sl es → Q' r n sl es) → ax_W d nb sb M code pc ls st n sl es Q') d nb sb M i ls st n sl es Q (fun ls st n sl es => ∀ Q' : ax_Q, (∀ r n sl es, Q r n sl es → Q' r n sl es) → ax_W d nb sb M rest (pc + len) ls st n sl es Q') := hF
    show ax_I ax_W d nb sb M i ls st n sl es Q' (fun ls st n sl es => ax_W d nb sb M rest (pc + len) ls st n sl es Q')
    exact ax_I_monoQ (fun _ _ _ _ _ _ _ _ _ _ _ h => h Q' hQ) (fun _ _ _ _ _ _ _ _ _ _ _ R h => h R (fun _ _ _ _ z => z)) hQ (fun _ _ _ _ _ h => h Q' hQ) hF
theorem ax_W_cons (d nb sb M len : Nat) (i : Instr) (rest : List (Nat × Instr)) (pc : Nat) (ls : ax_L) (st : List Value) (n sl : Nat) (es : ax_H) (Q : ax_Q) : ax_W d nb sb M ((len, i) :: rest) pc ls st n sl es Q = ax_I ax_W d nb sb M i ls st n sl es Q (fun ls st n sl es => ax_W d nb sb M rest (pc + len) ls st n sl es Q) := ax_W_eq d nb sb M ((len, i) :: rest) pc ls st n sl es Q
theorem ax_W_nil (d nb sb M : Nat) (pc : Nat) (ls : ax_L) (st : List Value) (n sl : Nat) (es : ax_H) (Q : ax_Q) : ax_W d nb sb M [] pc ls st n sl es Q = ax_J ax_W d nb sb M (pc : Int) ls st n sl es Q := ax_W_eq d nb sb M [] pc ls st n sl es Q
theorem ax_J_of {d nb sb M : Nat} {t : Int} {ls : ax_L} {st : List Value} {n sl : Nat} {es : ax_H} {Q : ax_Q} {k : Nat} {code : List (Nat × Instr)} (ht : t.toNat = k) (hb : ax_blk M k = some code) (h : ax_W d nb sb M code k ls st n sl es Q) : ax_J ax_W d nb sb M t ls st n sl es Q := ⟨code, by rw [ht]; exact hb, by rw [ht]; exact h⟩
/-- a method that makes no cells -/
def ax_Mt (d M : Nat) (args : List Value) (n sl : Nat) (es : ax_H) (Q : Option Value → ax_H → Prop) : Prop := ∃ m code, ax_m M = some m ∧ ax_blk M 0 = some code ∧ (ax_ent args).length ≤ m.2.2.1 ∧ ax_W d n sl M code 0 (ax_pad (ax_ent args) m.2.2.1) [] n sl es (fun r n' sl' es' => n' = n ∧ sl' = sl ∧ Q r es')
theorem ax_Mt_start {d M : Nat} {args : List Value} {n sl : Nat} {es : ax_H} {Q : Option Value → ax_H → Prop} {m : ax_M} {code : List (Nat × Instr)} {ls : ax_L} (hm : ax_m M = some m) (hb : ax_blk M 0 = some code) (hl : (ax_ent args).length ≤ m.2.2.1) (hp : ax_pad (ax_ent args) m.2.2.1 = ls) (h : ax_W d n sl M code 0 ls [] n sl es (fun r n' sl' es' => n' = n ∧ sl' = sl ∧ Q r es')) : ax_Mt d M args n sl es Q := ⟨m, code, hm, hb, hl, by rw [hp]; exact h⟩
theorem ax_Mt_mono {d M : Nat} {args : List Value} {n sl : Nat} {es : ax_H} {Q Q' : Option Value → ax_H → Prop} (h : ax_Mt d M args n sl es Q) (hQ : ∀ r es', Q r es' → Q' r es') : ax_Mt d M args n sl es Q' := by
  obtain ⟨m, code, h1, h2, h3, h4⟩ := h
  exact ⟨m, code, h1, h2, h3, ax_W_mono h4 (fun r n' sl' es' ⟨a, b, c⟩ => ⟨a, b, hQ r es' c⟩)⟩
theorem ax_inv_of {d nb sb M c : Nat} {st : List Value} {n sl : Nat} {es : ax_H} {K : List Value → Nat → Nat → ax_H → Prop} (h1 : c / 4 ≤ st.length) (h2 : ax_cat (st.drop (c / 4)) ≤ 8) (h3 : c % 4 = 1 → ax_rcv n es (M / 128) (st.take (c / 4)).reverse) (h4 : c % 4 = 2 → ax_rcv2 (st.take (c / 4)).reverse) (hnb : n ≤ nb) (hsb : sl ≤ sb)
    (h : ax_Mt d M (st.take (c / 4)).reverse n sl es (fun r es' => K (r.toList ++ st.drop (c / 4)) n sl es')) : ax_inv ax_W (d + 1) nb sb M c st n sl es K := by
  obtain ⟨m, code, k1, k2, k3, k4⟩ := h
  refine ⟨h1, h2, h3, h4, d, n, sl, _, m, code, rfl, hnb, hsb, Nat.le_refl _, Nat.le_refl _, k1, k2, k3, k4, ?_⟩
  rintro r n' sl' es' ⟨rfl, rfl, hk⟩
  exact ⟨rfl, rfl, hk⟩
/-- a call of which all is known -/
theorem ax_inv_eq {d nb sb M c : Nat} {st : List Value} {n sl : Nat} {es es1 : ax_H} {v : Option Value} {K : List Value → Nat → Nat → ax_H → Prop} (h1 : c / 4 ≤ st.length) (h2 : ax_cat (st.drop (c / 4)) ≤ 8) (h3 : c % 4 = 1 → ax_rcv n es (M / 128) (st.take (c / 4)).reverse) (h4 : c % 4 = 2 → ax_rcv2 (st.take (c / 4)).reverse) (hnb : n ≤ nb) (hsb : sl ≤ sb)
    (h : ax_Mt d M (st.take (c / 4)).reverse n sl es (fun r es' => r = v ∧ es' = es1)) (hk : K (v.toList ++ st.drop (c / 4)) n sl es1) : ax_inv ax_W (d + 1) nb sb M c st n sl es K :=
  ax_inv_of h1 h2 h3 h4 hnb hsb (ax_Mt_mono h (fun r es' ⟨a, b⟩ => by subst a; subst b; exact hk))
theorem ax_up_same (es : ax_H) (q : Nat) (e : ax_E) : ax_up es q e q = e := by simp [ax_up]
theorem ax_up_ne (es : ax_H) {q j : Nat} (e : ax_E) (h : j ≠ q) : ax_up es q e j = es j := by simp [ax_up, h]
theorem ax_rcv_ok {n : Nat} {es : ax_H} {c q : Nat} {fs : List Value} {As : List Value} (hq : q < ax_al n) (he : es q = .inr (c, fs)) : ax_rcv n es c (.ref q :: As) := by
  show q < ax_al n ∧ (match es q with
    | .inr (c', _) => c' = c
    | .inl _ => False)
  rw [he]
  exact ⟨hq, rfl⟩
theorem ax_J_eq {M t : Nat} {code : List (Nat × Instr)} (hb : ax_blk M t = some code) (d nb sb : Nat) (ls : ax_L) (st : List Value) (n sl : Nat) (es : ax_H) (Q : ax_Q) : ax_J ax_W d nb sb M (t : Int) ls st n sl es Q = ax_W d nb sb M code t ls st n sl es Q := by
  apply propext
  constructor
  · rintro ⟨c, h1, h2⟩
    have h1 : ax_blk M t = some c := h1
    rw [hb] at h1
    cases h1
    exact h2
  · intro h
    exact ⟨code, hb, h⟩
