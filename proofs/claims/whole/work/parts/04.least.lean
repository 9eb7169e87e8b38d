section AXM
variable {P P' : ax_P} (hP : ∀ d nb sb M code pc ls st n sl es Q, P d nb sb M code pc ls st n sl es Q → P' d nb sb M code pc ls st n sl es Q)
theorem ax_J_mono {d nb sb M : Nat} {t : Int} {ls : ax_L} {st : List Value} {n sl : Nat} {es : ax_H} {Q : ax_Q} (hP : ∀ d nb sb M code pc ls st n sl es Q, P d nb sb M code pc ls st n sl es Q → P' d nb sb M code pc ls st n sl es Q) : ax_J P d nb sb M t ls st n sl es Q → ax_J P' d nb sb M t ls st n sl es Q :=
  fun ⟨code, a, b⟩ => ⟨code, a, hP _ _ _ _ _ _ _ _ _ _ _ _ b⟩
theorem ax_C_mono {d nb sb M : Nat} {args : List Value} {n sl : Nat} {es : ax_H} {K K' : Option Value → Nat → Nat → ax_H → Prop} (hP : ∀ d nb sb M code pc ls st n sl es Q, P d nb sb M code pc ls st n sl es Q → P' d nb sb M code pc ls st n sl es Q) (hK : ∀ r n sl es, K r n sl es → K' r n sl es) : ax_C P d nb sb M args n sl es K → ax_C P' d nb sb M args n sl es K' := by
  rintro ⟨d', nb', sb', R, m, code, h1, h2, h3, h4, h5, h6, h7, h7b, h8, h9⟩
  exact ⟨d', nb', sb', R, m, code, h1, h2, h3, h4, h5, h6, h7, h7b, hP _ _ _ _ _ _ _ _ _ _ _ _ h8, fun r n' sl' es' h => ⟨(h9 r n' sl' es' h).1, (h9 r n' sl' es' h).2.1, hK _ _ _ _ (h9 r n' sl' es' h).2.2⟩⟩
theorem ax_inv_mono {d nb sb M c : Nat} {st : List Value} {n sl : Nat} {es : ax_H} {K K' : List Value → Nat → Nat → ax_H → Prop} (hP : ∀ d nb sb M code pc ls st n sl es Q, P d nb sb M code pc ls st n sl es Q → P' d nb sb M code pc ls st n sl es Q) (hK : ∀ st n sl es, K st n sl es → K' st n sl es) : ax_inv P d nb sb M c st n sl es K → ax_inv P' d nb sb M c st n sl es K' :=
  fun ⟨h1, h2, h3, h4, h5⟩ => ⟨h1, h2, h3, h4, ax_C_mono hP (fun _ _ _ _ h => hK _ _ _ _ h) h5⟩
theorem ax_ii_mono {op : Int32 → Int32 → Int32} {st : List Value} {K K' : List Value → Prop} (hK : ∀ st, K st → K' st) : ax_ii op K st → ax_ii op K' st := by
  unfold ax_ii; split
  · exact hK _
  · exact id
theorem ax_ll_mono {op : Int64 → Int64 → Int64} {st : List Value} {K K' : List Value → Prop} (hK : ∀ st, K st → K' st) : ax_ll op K st → ax_ll op K' st := by
  unfold ax_ll; split
  · exact hK _
  · exact id
theorem ax_li_mono {op : Int64 → Int32 → Int64} {st : List Value} {K K' : List Value → Prop} (hK : ∀ st, K st → K' st) : ax_li op K st → ax_li op K' st := by
  unfold ax_li; split
  · exact hK _
  · exact id
theorem ax_bi_mono {d nb sb b : Nat} {ls : ax_L} {st : List Value} {n sl : Nat} {es : ax_H} {K K' : ax_K} (hK : ∀ ls st n sl es, K ls st n sl es → K' ls st n sl es) : ax_bi d nb sb b ls st n sl es K → ax_bi d nb sb b ls st n sl es K' := by
  unfold ax_bi
  repeat' first
    | exact id
    | exact hK _ _ _ _ _
    | refine And.imp_right ?_
    | split
theorem ax_imp {a A B : Prop} (h : A → B) : (a → A) → (a → B) := fun f z => h (f z)
set_option maxHeartbeats 4000000 in
theorem ax_I_mono {K K' : ax_K} {d nb sb M : Nat} {i : Instr} {ls : ax_L} {st : List Value} {n sl : Nat} {es : ax_H} {Q : ax_Q} (hP : ∀ d nb sb M code pc ls st n sl es Q, P d nb sb M code pc ls st n sl es Q → P' d nb sb M code pc ls st n sl es Q) (hK : ∀ ls st n sl es, K ls st n sl es → K' ls st n sl es) : ax_I P d nb sb M i ls st n sl es Q K → ax_I P' d nb sb M i ls st n sl es Q K' := by
  cases i <;> dsimp only [ax_I]
  all_goals
    repeat' first
      | exact id
      | exact hK _ _ _ _ _
      | exact ax_J_mono hP
      | exact ax_ii_mono (fun _ => hK _ _ _ _ _)
      | exact ax_ll_mono (fun _ => hK _ _ _ _ _)
      | exact ax_li_mono (fun _ => hK _ _ _ _ _)
      | exact ax_inv_mono hP (fun _ _ _ _ => hK _ _ _ _ _)
      | exact ax_bi_mono hK
      | exact And.imp (ax_imp (ax_J_mono hP)) (ax_imp (hK _ _ _ _ _))
      | refine And.imp (ax_imp (ax_J_mono hP)) (ax_imp ?_)
      | refine And.imp_right ?_
      | split
theorem ax_F_mono {d nb sb M : Nat} {code : List (Nat × Instr)} {pc : Nat} {ls : ax_L} {st : List Value} {n sl : Nat} {es : ax_H} {Q : ax_Q} (hP : ∀ d nb sb M code pc ls st n sl es Q, P d nb sb M code pc ls st n sl es Q → P' d nb sb M code pc ls st n sl es Q) : ax_F P d nb sb M code pc ls st n sl es Q → ax_F P' d nb sb M code pc ls st n sl es Q := by
  cases code with
  | nil => exact ax_J_mono hP
  | cons a rest =>
    obtain ⟨len, i⟩ := a
    intro h
    have h1 : ax_I P d nb sb M i ls st n sl es Q fun ls st n sl es => P d nb sb M rest (pc + len) ls st n sl es Q := h
    show ax_I P' d nb sb M i ls st n sl es Q fun ls st n sl es => P' d nb sb M rest (pc + len) ls st n sl es Q
    exact ax_I_mono hP (fun _ _ _ _ _ h => hP _ _ _ _ _ _ _ _ _ _ _ _ h) h1
end AXM
theorem ax_W_fold {d nb sb M : Nat} {code : List (Nat × Instr)} {pc : Nat} {ls : ax_L} {st : List Value} {n sl : Nat} {es : ax_H} {Q : ax_Q} (h : ax_F ax_W d nb sb M code pc ls st n sl es Q) : ax_W d nb sb M code pc ls st n sl es Q :=
  fun P hc => hc _ _ _ _ _ _ _ _ _ _ _ _ (ax_F_mono (fun _ _ _ _ _ _ _ _ _ _ _ _ hw => hw P hc) h)
theorem ax_W_unfold {d nb sb M : Nat} {code : List (Nat × Instr)} {pc : Nat} {ls : ax_L} {st : List Value} {n sl : Nat} {es : ax_H} {Q : ax_Q} (h : ax_W d nb sb M code pc ls st n sl es Q) : ax_F ax_W d nb sb M code pc ls st n sl es Q :=
  h (ax_F ax_W) (fun _ _ _ _ _ _ _ _ _ _ _ _ hf => ax_F_mono (fun _ _ _ _ _ _ _ _ _ _ _ _ => ax_W_fold) hf)
theorem ax_W_eq (d nb sb M : Nat) (code : List (Nat × Instr)) (pc : Nat) (ls : ax_L) (st : List Value) (n sl : Nat) (es : ax_H) (Q : ax_Q) : ax_W d nb sb M code pc ls st n sl es Q = ax_F ax_W d nb sb M code pc ls st n sl es Q := propext ⟨ax_W_unfold, ax_W_fold⟩
