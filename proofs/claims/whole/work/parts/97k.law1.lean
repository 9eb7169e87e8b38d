/-! the law: what is so before each call -/
def qX (es : ax_H) (n k p hc : Nat) (kd pl0 ht hs : Nat → Int32) (F1 F2 : Int32 → Int32 → Int32 → Int32 → Int32) (B : zB) (Fe : zF) (un : Nat) (U : Nat → zB) (mk : Nat → Bool) (M : Nat → zB × zF) (L : Nat) (la lb lc : Nat → Int32) (t : zTp) (cs : List zCr) : Prop := xD es n k p hc kd pl0 ht hs F1 F2 B Fe un U mk M L la lb lc ∧ xTp es t ∧ xRd es ∧ xDs es ∧ xRs es ∧ xNm es cs ∧ cs.length = p
def qM (es : ax_H) (n : Nat) (st : Nat → Int32) (w : mW9) (k p hc : Nat) (kd pm ht hs : Nat → Int32) (F1 F2 : Int32 → Int32 → Int32 → Int32 → Int32) (B : zB) (Fe : zF) (un : Nat) (U : Nat → zB) (mk : Nat → Bool) (M : Nat → zB × zF) (L : Nat) (la lb lc : Nat → Int32) (t : zTp) (cs : List zCr) : Prop := mD es n st w k p hc kd pm ht hs F1 F2 B Fe un U mk M ∧ mY es t cs w ∧ mLi es L la lb lc
def qP (j k p : Nat) (pm pl0 ht : Nat → Int32) (B : zB) (Fe : zF) (un : Nat) (U : Nat → zB) (mk : Nat → Bool) (M : Nat → zB × zF) (L : Nat) (la lb lc : Nat → Int32) (t : zTp) : Prop := zT_ok t ∧ zB_ok k p j B ∧ zF_ok k Fe ∧ (∀ u, u < un → zB_ok k p j (U u)) ∧ (∀ m, m < 4 → mk m = true → zB_ok k p j (M m).1 ∧ zF_ok k (M m).2) ∧ zLn p L la lb lc ∧ zPm k p pm pl0 ∧ kz 6 pl0 ∧ zht p ht
def qI (es : ax_H) (n j : Nat) : Prop := ∃ k p hc kd pm pl0 ht hs F1 F2 B Fe un U mk M L la lb lc t cs st w, qX es n k p hc kd pl0 ht hs F1 F2 B Fe un U mk M L la lb lc t cs ∧ qM es n st w k p hc kd pm ht hs F1 F2 B Fe un U mk M L la lb lc t cs ∧ qP j k p pm pl0 ht B Fe un U mk M L la lb lc t
def qS (es : ax_H) (N : Nat) (xs : Nat → Int32) : Prop := es ax_scr = .inl (0, N, .inl xs) ∧ ∃ f, es 177 = .inl (3, 1, .inr (.inl f))
theorem zB_mono {k p N N' : Nat} {B : zB} (h : zB_ok k p N B) (hN : N ≤ N') : zB_ok k p N' B := ⟨h.1, Nat.le_trans h.2.1 hN, h.2.2⟩
theorem kpl_of {k p : Nat} {pm pl0 : Nat → Int32} (hk : 3 ≤ k) (h : zPm k p pm pl0) : kpl k p pl0 := fun i hi => by
  obtain ⟨v, h1, h2, h3⟩ := h i hi
  exact ⟨min v (k - 1), by omega, h3⟩
section LL
variable {j n k p hc L un N : Nat} {es es' : ax_H} {kd pm pl0 ht hs la lb lc xs : Nat → Int32} {F1 F2 : Int32 → Int32 → Int32 → Int32 → Int32} {B : zB} {Fe : zF} {U : Nat → zB} {mk : Nat → Bool} {M : Nat → zB × zF} {t : zTp} {cs : List zCr} {st : Nat → Int32} {w : mW9}
theorem xD_lo (X : xD es n k p hc kd pl0 ht hs F1 F2 B Fe un U mk M L la lb lc) (hf : ∀ j, j < 159 → es' j = es j) : xD es' n k p hc kd pl0 ht hs F1 F2 B Fe un U mk M L la lb lc := by
  obtain ⟨x0, hal, hk, hp, hhs, hC, hb, hS, hfe, ⟨g1, g2, g3, g4⟩, hP⟩ := X
  exact ⟨(hf 0 (by decide)).trans x0, hal, hk, hp, hhs, kC_frr hC (fun j hj => hf j (by omega)), kb_fr hb (fun j hj => hf j (by omega)), kSe_fr hS (fun j hj => hf j (by omega)), kfF_fr hfe (fun j hj => hf j (by omega)), ⟨(hf 16 (by decide)).trans g1, (hf 17 (by decide)).trans g2, (hf 18 (by decide)).trans g3, (hf 19 (by decide)).trans g4⟩, kP_fr hP (fun j hj => hf j (by omega))⟩
theorem qX_r (h : xTp es t ∧ xRd es ∧ xDs es ∧ xRs es ∧ xNm es cs ∧ cs.length = p) (hf : ∀ j, (j = 1 ∨ j = 2 ∨ j = 7 ∨ j = 20 ∨ (21 ≤ j ∧ j ≤ 37)) → es' j = es j) : xTp es' t ∧ xRd es' ∧ xDs es' ∧ xRs es' ∧ xNm es' cs ∧ cs.length = p := by
  obtain ⟨⟨⟨kd, nb, nm, tk, ft, pl, nx, h1⟩, sg, h2, h3⟩, ⟨v, b, h4⟩, h5, ⟨q0, q1, q2, q3, q4, q5, q6, q7⟩, ⟨h6, nm', h7, h8⟩, h9⟩ := h
  exact ⟨⟨⟨kd, nb, nm, tk, ft, pl, nx, (hf 1 (by omega)).trans h1⟩, sg, (hf 2 (by omega)).trans h2, h3⟩, ⟨v, b, (hf 20 (by omega)).trans h4⟩, xDs_fr h5 (fun j a b => hf j (by omega)), ⟨q0, q1, q2, q3, (hf 34 (by omega)).trans q4, (hf 35 (by omega)).trans q5, (hf 36 (by omega)).trans q6, (hf 37 (by omega)).trans q7⟩, ⟨h6, nm', (hf 7 (by omega)).trans h7, h8⟩, h9⟩
theorem qX_fr (h : qX es n k p hc kd pl0 ht hs F1 F2 B Fe un U mk M L la lb lc t cs) (hf : ∀ j, j < 159 → es' j = es j) : qX es' n k p hc kd pl0 ht hs F1 F2 B Fe un U mk M L la lb lc t cs := ⟨xD_lo h.1 hf, qX_r h.2 (fun j hj => hf j (by omega))⟩
theorem qX_x {k' hc' un' L' : Nat} {kd' pl0' ht' hs' la' lb' lc' : Nat → Int32} {F1' F2' : Int32 → Int32 → Int32 → Int32 → Int32} {B' : zB} {Fe' : zF} {U' : Nat → zB} {mk' : Nat → Bool} {M' : Nat → zB × zF} (h : qX es n k p hc kd pl0 ht hs F1 F2 B Fe un U mk M L la lb lc t cs) (X : xD es' n k' p hc' kd' pl0' ht' hs' F1' F2' B' Fe' un' U' mk' M' L' la' lb' lc') (hf : xfd es es') : qX es' n k' p hc' kd' pl0' ht' hs' F1' F2' B' Fe' un' U' mk' M' L' la' lb' lc' t cs := ⟨X, qX_r h.2 (fun j hj => hf j (by omega))⟩
theorem mY_fr (h : mY es t cs w) (hf : ∀ j, 160 ≤ j → j ≤ 169 → es' j = es j) : mY es' t cs w := by
  obtain ⟨y1, ⟨tp, y2, y2'⟩, ⟨so, pl, va, y3, y4, y5⟩, ⟨ws, y6, y7⟩, ⟨rn, y8⟩, y9, ⟨nm, y10, y11⟩, y12⟩ := h
  exact ⟨y1, ⟨tp, (hf 160 (by decide) (by decide)).trans y2, y2'⟩, ⟨so, pl, va, (hf 161 (by decide) (by decide)).trans y3, (hf 162 (by decide) (by decide)).trans y4, (hf 163 (by decide) (by decide)).trans y5⟩, ⟨ws, (hf 164 (by decide) (by decide)).trans y6, y7⟩, ⟨rn, (hf 169 (by decide) (by decide)).trans y8⟩, y9, ⟨nm, (hf 168 (by decide) (by decide)).trans y10, y11⟩, y12⟩
theorem mLi_fr (h : mLi es L la lb lc) (hf : es' 170 = es 170) : mLi es' L la lb lc := by
  obtain ⟨ln, h1, h2⟩ := h
  exact ⟨ln, hf.trans h1, h2⟩
theorem mD_fr (D : mD es n st w k p hc kd pm ht hs F1 F2 B Fe un U mk M) (hf : ∀ j, 159 ≤ j → j ≤ 176 → es' j = es j) : mD es' n st w k p hc kd pm ht hs F1 F2 B Fe un U mk M := by
  obtain ⟨⟨hal, hk, hp, hhs, hF, ⟨th, tp, sz, at0, fl, cd, nm, rm, on, fh, un', g', q0⟩, ct, op, ar, q1, q2, q3, q4⟩, ⟨a1, ⟨fa, a2⟩, ⟨pi, a3⟩, wa, a4⟩, ⟨th0, g, hO⟩, hun, hR, ⟨mb, hM, hMk⟩, al, hA⟩ := D
  have hO : es 159 = _ := hO
  exact ⟨⟨hal, hk, hp, hhs, hF, ⟨th, tp, sz, at0, fl, cd, nm, rm, on, fh, un', g', (hf 159 (by decide) (by decide)).trans q0⟩, ct, op, ar, (hf 165 (by decide) (by decide)).trans q1, (hf 166 (by decide) (by decide)).trans q2, (hf 167 (by decide) (by decide)).trans q3, q4⟩, ⟨(hf 173 (by decide) (by decide)).trans a1, ⟨fa, (hf 171 (by decide) (by decide)).trans a2⟩, ⟨pi, (hf 172 (by decide) (by decide)).trans a3⟩, wa, (hf 175 (by decide) (by decide)).trans a4⟩, ⟨th0, g, (hf 159 (by decide) (by decide)).trans hO⟩, hun, hR, ⟨mb, (hf 174 (by decide) (by decide)).trans hM, hMk⟩, al, (hf 176 (by decide) (by decide)).trans hA⟩
theorem qM_fr (h : qM es n st w k p hc kd pm ht hs F1 F2 B Fe un U mk M L la lb lc t cs) (hf : ∀ j, 158 < j → j ≤ 176 → es' j = es j) : qM es' n st w k p hc kd pm ht hs F1 F2 B Fe un U mk M L la lb lc t cs := ⟨mD_fr h.1 (fun j a b => hf j (by omega) b), mY_fr h.2.1 (fun j a b => hf j (by omega) (by omega)), mLi_fr h.2.2 (hf 170 (by decide) (by decide))⟩
theorem qM_x (h : qM es n st w k p hc kd pm ht hs F1 F2 B Fe un U mk M L la lb lc t cs) (hf : xfd es es') : qM es' n st w k p hc kd pm ht hs F1 F2 B Fe un U mk M L la lb lc t cs := qM_fr h (fun j a b => hf j (by omega))
theorem qM_m {st' : Nat → Int32} {k' hc' un' : Nat} {kd' pm' ht' hs' : Nat → Int32} {F1' F2' : Int32 → Int32 → Int32 → Int32 → Int32} {B' : zB} {Fe' : zF} {U' : Nat → zB} {mk' : Nat → Bool} {M' : Nat → zB × zF} (h : qM es n st w k p hc kd pm ht hs F1 F2 B Fe un U mk M L la lb lc t cs) (D : mD es' n st' w k' p hc' kd' pm' ht' hs' F1' F2' B' Fe' un' U' mk' M') (hf : mfd es es') : qM es' n st' w k' p hc' kd' pm' ht' hs' F1' F2' B' Fe' un' U' mk' M' L la lb lc t cs := ⟨D, mY_fr h.2.1 (fun j a b => hf j (by omega)), mLi_fr h.2.2 (hf 170 (by decide))⟩
theorem qX_m (h : qX es n k p hc kd pl0 ht hs F1 F2 B Fe un U mk M L la lb lc t cs) (hf : mfd es es') : qX es' n k p hc kd pl0 ht hs F1 F2 B Fe un U mk M L la lb lc t cs := qX_fr h (fun j hj => hf j (by omega))
theorem qS_fr (h : qS es N xs) (hf : ∀ j, 176 < j → es' j = es j) : qS es' N xs := by
  obtain ⟨h1, f, h2⟩ := h
  exact ⟨(hf _ (by decide)).trans h1, f, (hf 177 (by decide)).trans h2⟩
theorem qS_x (h : qS es N xs) (hf : xfd es es') : qS es' N xs := qS_fr h (fun j hj => hf j (by omega))
theorem qS_m (h : qS es N xs) (hf : mfd es es') : qS es' N xs := qS_fr h (fun j hj => hf j (by omega))
theorem qP_fs (P : qP j k p pm pl0 ht B Fe un U mk M L la lb lc t) : zFs Fe mk M := ⟨P.2.2.1.1, fun m hm hmk => (P.2.2.2.2.1 m hm hmk).2.1⟩
theorem qP_s (P : qP j k p pm pl0 ht B Fe un U mk M L la lb lc t) : qP (j + 1) k p pm pl0 ht B Fe un U mk M L la lb lc t := by
  obtain ⟨p1, p2, p3, p4, p5, p6⟩ := P
  exact ⟨p1, zB_mono p2 (by omega), p3, fun u hu => zB_mono (p4 u hu) (by omega), fun m hm hmk => ⟨zB_mono (p5 m hm hmk).1 (by omega), (p5 m hm hmk).2⟩, p6⟩
theorem qP_t {t' : zTp} (P : qP j k p pm pl0 ht B Fe un U mk M L la lb lc t) (ht' : zT_ok t') : qP j k p pm pl0 ht B Fe un U mk M L la lb lc t' := ⟨ht', P.2⟩
theorem qP_B {B' : zB} (P : qP j k p pm pl0 ht B Fe un U mk M L la lb lc t) (hun : un ≤ 16) (hB : zB_ok k p (j + 1) B') : qP (j + 1) k p pm pl0 ht B' Fe (zun un) (zpush U un B) mk M L la lb lc t := by
  obtain ⟨p1, p2, p3, p4, p5, p6⟩ := qP_s P
  refine ⟨p1, hB, p3, fun u hu => ?_, p5, p6⟩
  unfold zun at hu
  unfold zpush
  by_cases h16 : un = 16
  · rw [if_pos h16] at hu ⊢
    by_cases h15 : u < 15
    · rw [if_pos h15]
      exact p4 (u + 1) (by omega)
    · rw [if_neg h15]
      exact p2
  · rw [if_neg h16] at hu ⊢
    by_cases hlt : u < un
    · rw [if_pos hlt]
      exact p4 u hlt
    · rw [if_neg hlt]
      exact p2
theorem qI_mk (X : qX es n k p hc kd pl0 ht hs F1 F2 B Fe un U mk M L la lb lc t cs) (Mh : qM es n st w k p hc kd pm ht hs F1 F2 B Fe un U mk M L la lb lc t cs) (P : qP j k p pm pl0 ht B Fe un U mk M L la lb lc t) : qI es n j := ⟨k, p, hc, kd, pm, pl0, ht, hs, F1, F2, B, Fe, un, U, mk, M, L, la, lb, lc, t, cs, st, w, X, Mh, P⟩
/-- behind an asking of both -/
theorem qI_q (X : qX es n k p hc kd pl0 ht hs F1 F2 B Fe un U mk M L la lb lc t cs) (Mh : qM es n st w k p hc kd pm ht hs F1 F2 B Fe un U mk M L la lb lc t cs) (P : qP j k p pm pl0 ht B Fe un U mk M L la lb lc t) (hq : mq es st es') : qI es' n (j + 1) := by
  obtain ⟨st', D'⟩ := mD_q (qP_fs P) Mh.1 hq
  exact qI_mk (qX_m X (mq_d hq)) (qM_m Mh D' (mq_d hq)) (qP_s P)
theorem qX_n {n' : Nat} (hn : ax_al n' = 178) (h : qX es n k p hc kd pl0 ht hs F1 F2 B Fe un U mk M L la lb lc t cs) : qX es n' k p hc kd pl0 ht hs F1 F2 B Fe un U mk M L la lb lc t cs := by
  have e : ax_al n' = ax_al n := hn.trans h.1.2.1.symm
  unfold qX xD kbB kSe kTo kfF kf kP kPs kPm kbA kfA kbB kfF kf kb at h ⊢
  rw [e]
  exact h
theorem qM_n {n' : Nat} (hn : ax_al n' = 178) (h : qM es n st w k p hc kd pm ht hs F1 F2 B Fe un U mk M L la lb lc t cs) : qM es n' st w k p hc kd pm ht hs F1 F2 B Fe un U mk M L la lb lc t cs := by
  obtain ⟨⟨⟨hal, h1⟩, h2⟩, h3⟩ := h
  exact ⟨⟨⟨hn, h1⟩, h2⟩, h3⟩
end LL
