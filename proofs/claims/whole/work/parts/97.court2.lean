/-! the reference: court() -/
theorem zcl99 (y : Int32) : ∃ v, v ≤ 99 ∧ kx_max 0 (kx_min 99 y) = nI v := kl_val_in (1, fun _ => y)
theorem zF4_99 (c : List Int32) (x0 x1 x2 x3 : Int32) : ∃ v, v ≤ 99 ∧ zF4 c x0 x1 x2 x3 = nI v := kl_val_in _
def mJ (es : ax_H) (n : Nat) (st : Nat → Int32) (w : mW9) (dr : zDf) : Prop := ∀ kd' pl' ht' hs' Fe' U' M', zCt dr kd' pl' ht' hs' → Fe'.1 = 0 → ∃ pm', zPm dr.1 dr.2.1.length pm' pl' ∧ mD es n st w dr.1 dr.2.1.length dr.2.2.1.length kd' pm' ht' hs' (zF4 dr.2.2.2.2.1) (zF4 dr.2.2.2.2.2) (0, 0, fun _ => 0, pl', fun _ => 0) Fe' 0 U' (fun _ => false) M'
theorem zmapC {F : zCr → zCr} {l : List zCr} {i : Nat} (hi : i < l.length) : (l.map F).getD i zC0 = F (l.getD i zC0) := by
  rw [List.getD_eq_getElem?_getD, List.getD_eq_getElem?_getD, List.getElem?_map, List.getElem?_eq_getElem hi]
  rfl
/-- a draft's law, laid down below -/
theorem rLw_ml {x : Int32} {op ar : Nat → Int32} {cd : Nat} {h : Bool} {c : List Int32} (hr : rLw x op ar cd true c) (hcd : cd ≤ 1000) (hc : zVal h 24 c) {y : (Nat → Int32) → Int32} (hx : h = true → ∀ g, y g = g 3) : ∃ a, x = nI a ∧ ml_ok (rcpy op 1100 cd) (rcpy ar 1100 cd) a (fun g => zF4 c (g 0) (g 1) (g 2) (y g)) := by
  obtain ⟨s, h1, h2, h3, h4⟩ := hr
  refine ⟨s, h1, zF4_ml (by decide) hc (fun i hi => ?_) (by omega) (by omega) ?_ hx⟩
  · rw [rcpy_in _ _ (by omega), rcpy_in _ _ (by omega), ← Nat.add_assoc]
    exact h3 i hi
  · rw [rcpy_in _ _ (by omega), ← Nat.add_assoc]
    exact h4
section MM
variable {d n sl k p hc un : Nat} {es : ax_H} {kd pm ht hs : Nat → Int32} {F1 F2 : Int32 → Int32 → Int32 → Int32 → Int32} {st : Nat → Int32} {B : zB} {Fe : zF} {U : Nat → zB} {mk : Nat → Bool} {M : Nat → zB × zF} {w : mW9} {t : zTp} {cs : List zCr} {c : rC} {a : Nat} {v : rV} {ct op ar : Nat → Int32} {rn : Nat → Int64} {Q : Option Value → ax_H → Prop}
theorem mk_courtEnd (hal : ax_al n = 178) (ht' : zT_ok t) (X : rX es t c a 0 v ct op ar rn) {d0 : zDf} (R : rD ct op ar rn v d0) (hcd : v.1 ≤ a) (hok : zdok t d0) (hX : mX es st) {nm : Nat → Int64} (hN : es 168 = .inl (3, 6, .inr (.inl nm))) {mb ln : Nat → Int32} (hM : es 174 = .inl (2, 4, .inl mb)) (hL : es 170 = .inl (0, 250, .inl ln)) (hA : ∃ al, es 176 = .inl (0, 1200, .inl al)) (hT : ∃ tp, es 160 = .inl (0, 1000, .inl tp)) (hQ : ∀ es' st' w', mJ es' n st' w' (zSet d0) → mY es' (0, t.2) (zSet d0).2.1 w' → (∃ ln, es' 170 = .inl (0, 250, .inl ln) ∧ ln 0 = 0) → (∀ j, (j < 159 ∨ 176 < j) → es' j = es j) → Q (some (.int 0)) es') : ax_J ax_W (d + 60) n sl 1433 89 [some (.ref 159), none] [] n sl es (ax_qq n sl Q) := by
  obtain ⟨⟨S, x1, x2⟩, x3, x4⟩ := id X
  have ha := zpre_le S.2.2.2
  have hL0 := ht'.1
  obtain ⟨r1, r2, r3, r4, r5, r6, r7, r8, r9, r10, ho⟩ := id R
  have w0 : es 159 = _ := S.1
  simp only [ax_W_cons, ax_I, ax_cmp, ax_ii, ax_ll, ax_li, ax_st1, ax_st2, ax_kl, ax_k2, ax_fit, ax_rtok, List.getElem?_cons_zero, List.getElem?_cons_succ, List.length_cons, List.length_nil, List.set_cons_zero, List.set_cons_succ, Nat.reduceAdd, Nat.reduceDiv, Nat.reduceMod, Nat.reduceMul, Nat.reduceLT, Nat.reduceLeDiff, Int32.reduceOfInt, Int64.reduceOfInt, true_and, and_true, and_self, true_or, or_true, false_implies, true_implies, not_false_eq_true, not_true_eq_false, Value.category, Nat.reduceEqDiff, Option.toList, List.cons_append, List.nil_append, List.drop_succ_cons, List.drop_zero, ax_qq_eq, ax_t_1433, ax_j_1433_89, ax_n_1433_89]
  rw [ax_n_1433_91]
  -- names
  have L3 : ∀ es2, (∀ j, j ≠ 165 → j ≠ 166 → j ≠ 167 → es2 j = es j) → es2 165 = .inl (0, 80, .inl (rcpy ct 40 40)) → es2 166 = .inl (0, 2200, .inl (rcpy op 1100 v.1)) → es2 167 = .inl (0, 2200, .inl (rcpy ar 1100 v.1)) → ax_W (d + 60) n sl 1433 [(1, .iload 1), (1, .aload 0), (3, .getfield 2884), (3, .if_icmp .ge 194), (1, .aload 0), (3, .getfield 2874), (1, .iload 1), (1, .aload 0), (3, .getfield 2878), (1, .iload 1), (1, .laload), (1, .lastore), (3, .iinc 1 1), (3, .goto 168)] 168 [some (.ref 159), some (.int (nI 0))] [] n sl es2 (ax_qq n sl Q) := by
    intro es2 f2 y5 y6 y7
    have z0 := (f2 159 (by decide) (by decide) (by decide)).trans w0
    have z9 := (f2 169 (by decide) (by decide) (by decide)).trans x4
    have z8 := (f2 168 (by decide) (by decide) (by decide)).trans hN
    have L := kx_down (k := v.2.1) (I := fun f i => ∀ es3, es3 168 = .inl (3, 6, .inr (.inl (rcpL rn nm i))) → (∀ j, j ≠ 168 → es3 j = es2 j) → ax_W (d + 60) n sl 1433 [(1, .iload 1), (1, .aload 0), (3, .getfield 2884), (3, .if_icmp .ge 194), (1, .aload 0), (3, .getfield 2874), (1, .iload 1), (1, .aload 0), (3, .getfield 2878), (1, .iload 1), (1, .laload), (1, .lastore), (3, .iinc 1 1), (3, .goto 168)] 168 [some (.ref 159), some (.int (nI i))] [] n sl es3 (ax_qq n sl Q)) ?_ ?_ v.2.1 0 (by omega)
    · exact L es2 (by rw [rcpL_0]; exact z8) (fun j _ => rfl)
    · intro es3 h8 f3
      have e0 := kx_nn (k := v.2.1) (by omega)
      have u0 := (f3 159 (by decide)).trans z0
      simp only [ax_W_cons, ax_I, ax_cmp, ax_ii, ax_ll, ax_li, ax_st1, ax_st2, ax_kl, ax_k2, ax_fit, ax_rtok, List.getElem?_cons_zero, List.getElem?_cons_succ, List.length_cons, List.length_nil, List.set_cons_zero, List.set_cons_succ, Nat.reduceAdd, Nat.reduceDiv, Nat.reduceMod, Nat.reduceMul, Nat.reduceLT, Nat.reduceLeDiff, Int32.reduceOfInt, Int64.reduceOfInt, true_and, and_true, and_self, true_or, or_true, false_implies, true_implies, not_false_eq_true, not_true_eq_false, Value.category, Nat.reduceEqDiff, Option.toList, List.cons_append, List.nil_append, List.drop_succ_cons, List.drop_zero, ax_qq_eq, ax_t_1433, ax_j_1433_194, ax_n_1433_194, e0, u0, mo_f, hal]
      obtain ⟨es4, he4⟩ : ∃ x, x = ax_up es3 159 (.inr (11, mo_f 0 0 c.1 (nI a) 0 (nI v.1) (nI v.2.1) (nI v.2.1) v.2.2.1 v.2.2.2 c.2.2.1 c.2.2.2)) := ⟨_, rfl⟩
      have f4 : ∀ j, j ≠ 159 → es4 j = es3 j := fun j hj => by rw [he4, ax_up_ne _ _ hj]
      obtain ⟨w', hw⟩ : ∃ x : mW9, x = (0, c.1, nI a, 0, nI v.1, nI v.2.1, nI v.2.1, v.2.2.1, v.2.2.2) := ⟨_, rfl⟩
      have O4 : mOb es4 0 w' c.2.2.1 c.2.2.2 := by rw [he4, hw]; exact ax_up_same ..
      have O4' : es4 159 = _ := O4
      unfold mo_f at he4
      rw [← he4]
      clear he4
      have F4 : ∀ j, j ≠ 159 → j ≠ 165 → j ≠ 166 → j ≠ 167 → j ≠ 168 → es4 j = es j := fun j q1 q2 q3 q4 q5 => (f4 j q1).trans ((f3 j q5).trans (f2 j q2 q3 q4))
      have v5 := (f4 165 (by decide)).trans ((f3 165 (by decide)).trans y5)
      have v6 := (f4 166 (by decide)).trans ((f3 166 (by decide)).trans y6)
      have v7 := (f4 167 (by decide)).trans ((f3 167 (by decide)).trans y7)
      obtain ⟨k3, k6, kc, kh, -⟩ := id hok
      have hv := zSet_ok hok
      have hlen : (zSet d0).2.1.length = d0.2.1.length := List.length_map ..
      have mem : ∀ i, i < d0.2.1.length → d0.2.1.getD i zC0 ∈ d0.2.1 := fun i hi => by
        rw [List.getD_eq_getElem?_getD, List.getElem?_eq_getElem hi]
        exact List.getElem_mem hi
      have gS : ∀ i, i < d0.2.1.length → (zSet d0).2.1.getD i zC0 = ((d0.2.1.getD i zC0).1, min (d0.2.1.getD i zC0).2.1 (d0.1 - 1), (d0.2.1.getD i zC0).2.2) := fun i hi => zmapC hi
      have C : ∀ kd' pl' ht2 hs', zCt (zSet d0) kd' pl' ht2 hs' → mCt (rcpy ct 40 40) d0.1 d0.2.1.length d0.2.2.1.length kd' (fun i => nI (d0.2.1.getD i zC0).2.1) ht2 hs' ∧ zPm d0.1 d0.2.1.length (fun i => nI (d0.2.1.getD i zC0).2.1) pl' := by
        rintro kd' pl' ht2 hs' ⟨c1, c2, -⟩
        rw [hlen] at c1
        refine ⟨⟨?_, ?_, ?_, fun i hi => ?_, fun i hi => ?_⟩, fun i hi => ?_⟩
        · rw [rcpy_in _ _ (by decide)]
          exact r1
        · rw [rcpy_in _ _ (by decide)]
          exact r2
        · rw [rcpy_in _ _ (by decide)]
          exact r3
        · obtain ⟨q1, q2, q3⟩ := c1 i hi
          rw [gS i hi] at q1 q2 q3
          obtain ⟨p1, p2, p3, -⟩ := r6 i hi
          have hk13 := (kc _ (mem i hi)).1
          rw [rcpy_in _ _ (by omega), rcpy_in _ _ (by omega), rcpy_in _ _ (by omega)]
          refine ⟨?_, ?_, ?_⟩
          · rw [show 40 + (5 + 3 * i) = 45 + 3 * i by omega, p1, q1]
            exact (kn_sub (b := 13) hk13.1).symm
          · rw [show 40 + (5 + 3 * i + 1) = 45 + 3 * i + 1 by omega, p2]
          · rw [show 40 + (5 + 3 * i + 2) = 45 + 3 * i + 2 by omega, p3, q3]
        · rw [rcpy_in _ _ (by omega), show 40 + (23 + i) = 63 + i by omega, r7 i hi]
          exact (c2 i hi).symm
        · obtain ⟨q1, q2, q3⟩ := c1 i hi
          rw [gS i hi] at q2
          exact ⟨(d0.2.1.getD i zC0).2.1, (kc _ (mem i hi)).2.1, rfl, q2⟩
      have hcd' : v.1 ≤ 1000 := by omega
      have hW : mLw (rcpy ct 40 40) (rcpy op 1100 v.1) (rcpy ar 1100 v.1) (zF4 (zSet d0).2.2.2.2.1) (zF4 (zSet d0).2.2.2.2.2) := by
        unfold mLw
        rw [rcpy_in _ _ (by decide), rcpy_in _ _ (by decide)]
        constructor
        · cases hb : d0.2.2.2.1.2.2.1
          · have e : (zSet d0).2.2.2.2.1 = [1] := by
              show (if d0.2.2.2.1.2.2.1 = true then d0.2.2.2.2.1 else [1]) = [1]
              rw [hb]
              rfl
            rw [hb] at r8
            exact Or.inl ⟨r8, fun x0 x1 x2 x3 => by rw [e]; exact zF4_1 x0 x1 x2 x3⟩
          · have e : (zSet d0).2.2.2.2.1 = d0.2.2.2.2.1 := by
              show (if d0.2.2.2.1.2.2.1 = true then d0.2.2.2.2.1 else [1]) = _
              rw [hb]
              rfl
            rw [hb] at r8
            have hv := hv.1
            rw [e] at hv ⊢
            exact Or.inr (rLw_ml r8 hcd' hv (fun z => by cases z))
        · cases hb : d0.2.2.2.1.2.2.2
          · have e : (zSet d0).2.2.2.2.2 = [zneg 20] := by
              show (if d0.2.2.2.1.2.2.2 = true then d0.2.2.2.2.2 else [zneg 20]) = _
              rw [hb]
              rfl
            rw [hb] at r9
            exact Or.inl ⟨r9, fun x0 x1 x2 x3 => by rw [e]; exact zF4_20 x0 x1 x2 x3⟩
          · have e : (zSet d0).2.2.2.2.2 = d0.2.2.2.2.2 := by
              show (if d0.2.2.2.1.2.2.2 = true then d0.2.2.2.2.2 else [zneg 20]) = _
              rw [hb]
              rfl
            rw [hb] at r9
            have hv := hv.2
            rw [e] at hv ⊢
            exact Or.inr (rLw_ml r9 hcd' hv (fun _ _ => rfl))
      have K : ∀ kd' pl' ht2 hs', zCt (zSet d0) kd' pl' ht2 hs' → ∀ es5, (∀ j, 165 ≤ j → j ≤ 167 → es5 j = es4 j) → mO es5 → mK es5 d0.1 d0.2.1.length d0.2.2.1.length kd' (fun i => nI (d0.2.1.getD i zC0).2.1) ht2 hs' (zF4 (zSet d0).2.2.2.2.1) (zF4 (zSet d0).2.2.2.2.2) := fun kd' pl' ht2 hs' hC es5 f5 hO => ⟨hO, _, _, _, (f5 165 (by decide) (by decide)).trans v5, (f5 166 (by decide) (by decide)).trans v6, (f5 167 (by decide) (by decide)).trans v7, (C kd' pl' ht2 hs' hC).1, hW⟩
      -- some rows of this kind
      obtain ⟨kd1, hkd1⟩ : ∃ f : Nat → Int32, f = fun i => nI ((zSet d0).2.1.getD i zC0).1 := ⟨_, rfl⟩
      obtain ⟨pl1, hpl1⟩ : ∃ f : Nat → Int32, f = fun i => if i < d0.2.1.length then nI ((zSet d0).2.1.getD i zC0).2.1 else 0 := ⟨_, rfl⟩
      obtain ⟨ht1, hht1⟩ : ∃ f : Nat → Int32, f = fun i => nI ((zSet d0).2.1.getD i zC0).2.2.1 := ⟨_, rfl⟩
      obtain ⟨hs1, hhs1⟩ : ∃ f : Nat → Int32, f = fun i => nI ((zSet d0).2.2.1.getD i 0) := ⟨_, rfl⟩
      have Z1 : zCt (zSet d0) kd1 pl1 ht1 hs1 := by
        refine ⟨fun i hi => ⟨by rw [hkd1], ?_, by rw [hht1]⟩, fun i hi => by rw [hhs1], fun j hj => ?_⟩
        · rw [hpl1]
          dsimp only
          rw [hlen] at hi
          rw [if_pos hi]
        · rw [hpl1]
          dsimp only
          rw [if_neg (by omega)]
      have X4 : mX es4 st := by
        obtain ⟨q1, ⟨fa, q2⟩, ⟨pi, q3⟩, wa, q4⟩ := hX
        exact ⟨(F4 173 (by decide) (by decide) (by decide) (by decide) (by decide)).trans q1, ⟨fa, (F4 171 (by decide) (by decide) (by decide) (by decide) (by decide)).trans q2⟩, ⟨pi, (F4 172 (by decide) (by decide) (by decide) (by decide) (by decide)).trans q3⟩, wa, (F4 175 (by decide) (by decide) (by decide) (by decide) (by decide)).trans q4⟩
      refine ax_inv_of (Nat.le_of_ble_eq_true rfl) (Nat.le_of_ble_eq_true rfl) (fun _ => ax_rcv_ok (by omega) O4') (fun h => absurd h (by decide)) (Nat.le_refl _) (Nat.le_refl _) (mk_begins (d := d + 57) hal (K kd1 pl1 ht1 hs1 Z1 es4 (fun j _ _ => rfl) ⟨_, _, _, _, _, _, _, _, _, _, _, _, O4⟩) X4 (by omega) k3.2 r4 (C kd1 pl1 ht1 hs1 Z1).2 O4 ((F4 174 (by decide) (by decide) (by decide) (by decide) (by decide)).trans hM) ((F4 170 (by decide) (by decide) (by decide) (by decide) (by decide)).trans hL) ?_)
      intro es5 st5 mb5 ln5 O5 X5 V5 s26 m5 hm5 l5 hl5 f5
      simp only [ax_W_cons, ax_I, ax_cmp, ax_ii, ax_ll, ax_li, ax_st1, ax_st2, ax_kl, ax_k2, ax_fit, ax_rtok, List.getElem?_cons_zero, List.getElem?_cons_succ, List.length_cons, List.length_nil, List.set_cons_zero, List.set_cons_succ, Nat.reduceAdd, Nat.reduceDiv, Nat.reduceMod, Nat.reduceMul, Nat.reduceLT, Nat.reduceLeDiff, Int32.reduceOfInt, Int64.reduceOfInt, true_and, and_true, and_self, true_or, or_true, false_implies, true_implies, not_false_eq_true, not_true_eq_false, Value.category, Nat.reduceEqDiff, Option.toList, List.cons_append, List.nil_append, List.drop_succ_cons, List.drop_zero, ax_qq_eq, ax_t_1433]
      refine hQ es5 st5 w' ?_ ?_ ⟨ln5, l5, hl5⟩ (fun j hj => ?_)
      · intro kd' pl' ht2 hs' Fe' U' M' hC hFe
        refine ⟨_, by rw [hlen]; exact (C kd' pl' ht2 hs' hC).2, ⟨hal, k3, by rw [hlen]; exact r4, ⟨kh.1, kh.2.1, fun i hi => ?_⟩, fun x0 x1 x2 x3 => zF4_99 _ _ _ _ _, ?_⟩, X5, ⟨0, c.2.2.2, O5⟩, by decide, ⟨?_, ⟨?_, fun i hi => ?_⟩, fun u hu => absurd hu (Nat.not_lt_zero u), fun m _ hm => by cases hm⟩, ⟨mb5, m5, fun m hm => hm5 m hm⟩, ?_⟩
        · refine ⟨d0.2.2.1.getD i 0, ?_, (hC.2.1 i hi)⟩
          have hi : i < d0.2.2.1.length := hi
          rw [List.getD_eq_getElem?_getD, List.getElem?_eq_getElem hi]
          exact kh.2.2 _ (List.getElem_mem hi)
        · rw [hlen]
          exact K kd' pl' ht2 hs' hC es5 (fun j h1 h2 => f5 j (by omega)) ⟨_, _, _, _, _, _, _, _, _, _, _, _, O5⟩
        · obtain ⟨a1, a2, a3, a4, a5⟩ := V5
          refine ⟨a1, a2, a3, fun i hi => ?_, fun i hi => a5 i (by rw [hlen] at hi; exact hi)⟩
          rw [hlen] at hi
          rw [a4 i hi]
          have q1 := (Z1.1 i (by rw [hlen]; exact hi)).2.1
          have q2 := (hC.1 i (by rw [hlen]; exact hi)).2.1
          exact q1.trans q2.symm
        · rw [hFe]
          exact s26
        · rw [hFe] at hi
          exact absurd hi (Nat.not_lt_zero i)
        · obtain ⟨al, hal2⟩ := hA
          exact ⟨al, (f5 176 (by decide)).trans ((F4 176 (by decide) (by decide) (by decide) (by decide) (by decide)).trans hal2)⟩
      · obtain ⟨tp, hT⟩ := hT
        obtain ⟨so, pl, va, t1, t2, t3, -⟩ := S.2.1
        obtain ⟨ws, t4, t5⟩ := S.2.2.1
        refine ⟨by rw [hw]; rfl, ⟨tp, (f5 160 (by decide)).trans ((F4 160 (by decide) (by decide) (by decide) (by decide) (by decide)).trans hT), fun j hj => absurd hj (Nat.not_lt_zero j)⟩, ⟨so, pl, va, (f5 161 (by decide)).trans ((F4 161 (by decide) (by decide) (by decide) (by decide) (by decide)).trans t1), (f5 162 (by decide)).trans ((F4 162 (by decide) (by decide) (by decide) (by decide) (by decide)).trans t2), (f5 163 (by decide)).trans ((F4 163 (by decide) (by decide) (by decide) (by decide) (by decide)).trans t3)⟩, ⟨ws, (f5 164 (by decide)).trans ((F4 164 (by decide) (by decide) (by decide) (by decide) (by decide)).trans t4), t5⟩, ⟨rn, (f5 169 (by decide)).trans ((F4 169 (by decide) (by decide) (by decide) (by decide) (by decide)).trans x4)⟩, by rw [hlen]; exact r4, ⟨_, (f5 168 (by decide)).trans ((f4 168 (by decide)).trans h8), fun i hi => ?_⟩, by rw [hw, hlen, ← r10]⟩
        rw [hlen] at hi
        rw [gS i hi]
        unfold rcpL
        rw [if_pos (by omega)]
        exact (r6 i hi).2.2.2
      · rw [f5 j (by omega), F4 j (by omega) (by omega) (by omega) (by omega) (by omega)]
    · intro f i hi ih es3 h8 f3
      have e0 : ¬ nI v.2.1 ≤ nI i := nI_ge (by omega) (by omega)
      have i4 : nI i + 1 = nI (i + 1) := (nI_succ i).symm
      have i1 : vp_in (nI i) 6 := nI_in (by omega) (by decide)
      have i2 : (nI i).toNatClampNeg = i := nI_clamp (by omega)
      have u0 := (f3 159 (by decide)).trans z0
      have u9 := (f3 169 (by decide)).trans z9
      simp only [ax_W_cons, ax_I, ax_cmp, ax_ii, ax_ll, ax_li, ax_st1, ax_st2, ax_kl, ax_k2, ax_fit, ax_rtok, List.getElem?_cons_zero, List.getElem?_cons_succ, List.length_cons, List.length_nil, List.set_cons_zero, List.set_cons_succ, Nat.reduceAdd, Nat.reduceDiv, Nat.reduceMod, Nat.reduceMul, Nat.reduceLT, Nat.reduceLeDiff, Int32.reduceOfInt, Int64.reduceOfInt, true_and, and_true, and_self, true_or, or_true, false_implies, true_implies, not_false_eq_true, not_true_eq_false, Value.category, Nat.reduceEqDiff, Option.toList, List.cons_append, List.nil_append, List.drop_succ_cons, List.drop_zero, ax_qq_eq, ax_t_1433, e0, u0, u9, h8, mo_f, hal, i1, i2, i4]
      rw [ax_j_1433_168]
      refine ih _ ?_ (fun j hj => by rw [ax_up_ne _ _ hj]; exact f3 j hj)
      rw [← rcpL_s]
      exact ax_up_same ..
  -- codes
  have L2 : ∀ es2, (∀ j, j ≠ 165 → es2 j = es j) → es2 165 = .inl (0, 80, .inl (rcpy ct 40 40)) → ax_W (d + 60) n sl 1433 [(1, .iload 1), (1, .aload 0), (3, .getfield 2868), (3, .if_icmp .ge 166), (1, .aload 0), (3, .getfield 2862), (1, .iload 1), (1, .aload 0), (3, .getfield 2862), (3, .iconst 1100), (1, .iload 1), (1, .iadd), (1, .iaload), (1, .iastore), (1, .aload 0), (3, .getfield 2866), (1, .iload 1), (1, .aload 0), (3, .getfield 2866), (3, .iconst 1100), (1, .iload 1), (1, .iadd), (1, .iaload), (1, .iastore), (3, .iinc 1 1), (3, .goto 120)] 120 [some (.ref 159), some (.int (nI 0))] [] n sl es2 (ax_qq n sl Q) := by
    intro es2 f2 y5
    have L := kx_down (k := v.1) (I := fun f i => ∀ es3, es3 166 = .inl (0, 2200, .inl (rcpy op 1100 i)) → es3 167 = .inl (0, 2200, .inl (rcpy ar 1100 i)) → (∀ j, j ≠ 166 → j ≠ 167 → es3 j = es2 j) → ax_W (d + 60) n sl 1433 [(1, .iload 1), (1, .aload 0), (3, .getfield 2868), (3, .if_icmp .ge 166), (1, .aload 0), (3, .getfield 2862), (1, .iload 1), (1, .aload 0), (3, .getfield 2862), (3, .iconst 1100), (1, .iload 1), (1, .iadd), (1, .iaload), (1, .iastore), (1, .aload 0), (3, .getfield 2866), (1, .iload 1), (1, .aload 0), (3, .getfield 2866), (3, .iconst 1100), (1, .iload 1), (1, .iadd), (1, .iaload), (1, .iastore), (3, .iinc 1 1), (3, .goto 120)] 120 [some (.ref 159), some (.int (nI i))] [] n sl es3 (ax_qq n sl Q)) ?_ ?_ v.1 0 (by omega)
    · exact L es2 (by rw [rcpy_0]; exact (f2 166 (by decide)).trans x1) (by rw [rcpy_0]; exact (f2 167 (by decide)).trans x2) (fun j _ _ => rfl)
    · intro es3 h6 h7 f3
      have e0 := kx_nn (k := v.1) (by omega)
      have u0 := (f3 159 (by decide) (by decide)).trans ((f2 159 (by decide)).trans w0)
      simp only [ax_W_cons, ax_I, ax_cmp, ax_ii, ax_ll, ax_li, ax_st1, ax_st2, ax_kl, ax_k2, ax_fit, ax_rtok, List.getElem?_cons_zero, List.getElem?_cons_succ, List.length_cons, List.length_nil, List.set_cons_zero, List.set_cons_succ, Nat.reduceAdd, Nat.reduceDiv, Nat.reduceMod, Nat.reduceMul, Nat.reduceLT, Nat.reduceLeDiff, Int32.reduceOfInt, Int64.reduceOfInt, true_and, and_true, and_self, true_or, or_true, false_implies, true_implies, not_false_eq_true, not_true_eq_false, Value.category, Nat.reduceEqDiff, Option.toList, List.cons_append, List.nil_append, List.drop_succ_cons, List.drop_zero, ax_qq_eq, ax_t_1433, ax_j_1433_166, ax_n_1433_166, e0, u0, mo_f, hal]
      rw [ax_n_1433_168]
      exact L3 es3 (fun j q1 q2 q3 => (f3 j q2 q3).trans (f2 j q1)) ((f3 165 (by decide) (by decide)).trans y5) h6 h7
    · intro f i hi ih es3 h6 h7 f3
      have e0 : ¬ nI v.1 ≤ nI i := nI_ge (by omega) (by omega)
      have i4 : nI i + 1 = nI (i + 1) := (nI_succ i).symm
      have i1 : vp_in (nI i) 2200 := nI_in (by omega) (by decide)
      have i2 : (nI i).toNatClampNeg = i := nI_clamp (by omega)
      have i5 : 1100 + nI i = nI (1100 + i) := by
        show nI 1100 + nI i = _
        rw [kn_add]
      have i6 : vp_in (nI (1100 + i)) 2200 := nI_in (by omega) (by decide)
      have i7 : (nI (1100 + i)).toNatClampNeg = 1100 + i := nI_clamp (by omega)
      have u0 := (f3 159 (by decide) (by decide)).trans ((f2 159 (by decide)).trans w0)
      have p1 := rcpy_at op (N := 1100) (i := i) (by omega)
      have p2 := rcpy_at ar (N := 1100) (i := i) (by omega)
      simp only [ax_W_cons, ax_I, ax_cmp, ax_ii, ax_ll, ax_li, ax_st1, ax_st2, ax_kl, ax_k2, ax_fit, ax_rtok, List.getElem?_cons_zero, List.getElem?_cons_succ, List.length_cons, List.length_nil, List.set_cons_zero, List.set_cons_succ, Nat.reduceAdd, Nat.reduceDiv, Nat.reduceMod, Nat.reduceMul, Nat.reduceLT, Nat.reduceLeDiff, Int32.reduceOfInt, Int64.reduceOfInt, true_and, and_true, and_self, true_or, or_true, false_implies, true_implies, not_false_eq_true, not_true_eq_false, Value.category, Nat.reduceEqDiff, Option.toList, List.cons_append, List.nil_append, List.drop_succ_cons, List.drop_zero, ax_qq_eq, ax_t_1433, e0, u0, h6, h7, mo_f, hal, i1, i2, i4, i5, i6, i7, p1, p2, ax_up_ne, ne_eq]
      rw [ax_j_1433_120]
      refine ih _ ?_ ?_ (fun j q1 q2 => by rw [ax_up_ne _ _ q2, ax_up_ne _ _ q1]; exact f3 j q1 q2)
      · rw [← rcpy_s, ax_up_ne _ _ (by decide), ax_up_same]
      · rw [← rcpy_s, ax_up_same]
  -- the row of the court
  have L := kx_down (k := 40) (I := fun f i => ∀ es3, es3 165 = .inl (0, 80, .inl (rcpy ct 40 i)) → (∀ j, j ≠ 165 → es3 j = es j) → ax_W (d + 60) n sl 1433 [(1, .iload 1), (2, .iconst 40), (3, .if_icmp .ge 118), (1, .aload 0), (3, .getfield 2858), (1, .iload 1), (1, .aload 0), (3, .getfield 2858), (2, .iconst 40), (1, .iload 1), (1, .iadd), (1, .iaload), (1, .iastore), (3, .iinc 1 1), (3, .goto 91)] 91 [some (.ref 159), some (.int (nI i))] [] n sl es3 (ax_qq n sl Q)) ?_ ?_ 40 0 (by omega)
  · exact L es (by rw [rcpy_0]; exact x3) (fun j _ => rfl)
  · intro es3 h5 f3
    have e0 : (40 : Int32) ≤ nI 40 := by decide
    simp only [ax_W_cons, ax_I, ax_cmp, ax_ii, ax_ll, ax_li, ax_st1, ax_st2, ax_kl, ax_k2, ax_fit, ax_rtok, List.getElem?_cons_zero, List.getElem?_cons_succ, List.length_cons, List.length_nil, List.set_cons_zero, List.set_cons_succ, Nat.reduceAdd, Nat.reduceDiv, Nat.reduceMod, Nat.reduceMul, Nat.reduceLT, Nat.reduceLeDiff, Int32.reduceOfInt, Int64.reduceOfInt, true_and, and_true, and_self, true_or, or_true, false_implies, true_implies, not_false_eq_true, not_true_eq_false, Value.category, Nat.reduceEqDiff, Option.toList, List.cons_append, List.nil_append, List.drop_succ_cons, List.drop_zero, ax_qq_eq, ax_t_1433, ax_j_1433_118, ax_n_1433_118, e0]
    rw [ax_n_1433_120]
    exact L2 es3 f3 h5
  · intro f i hi ih es3 h5 f3
    have e0 : ¬ (40 : Int32) ≤ nI i := nI_ge (b := 40) (by omega) (by decide)
    have i4 : nI i + 1 = nI (i + 1) := (nI_succ i).symm
    have i1 : vp_in (nI i) 80 := nI_in (by omega) (by decide)
    have i2 : (nI i).toNatClampNeg = i := nI_clamp (by omega)
    have i5 : 40 + nI i = nI (40 + i) := by
      show nI 40 + nI i = _
      rw [kn_add]
    have i6 : vp_in (nI (40 + i)) 80 := nI_in (by omega) (by decide)
    have i7 : (nI (40 + i)).toNatClampNeg = 40 + i := nI_clamp (by omega)
    have u0 := (f3 159 (by decide)).trans w0
    have p1 := rcpy_at ct (N := 40) (i := i) (by omega)
    simp only [ax_W_cons, ax_I, ax_cmp, ax_ii, ax_ll, ax_li, ax_st1, ax_st2, ax_kl, ax_k2, ax_fit, ax_rtok, List.getElem?_cons_zero, List.getElem?_cons_succ, List.length_cons, List.length_nil, List.set_cons_zero, List.set_cons_succ, Nat.reduceAdd, Nat.reduceDiv, Nat.reduceMod, Nat.reduceMul, Nat.reduceLT, Nat.reduceLeDiff, Int32.reduceOfInt, Int64.reduceOfInt, true_and, and_true, and_self, true_or, or_true, false_implies, true_implies, not_false_eq_true, not_true_eq_false, Value.category, Nat.reduceEqDiff, Option.toList, List.cons_append, List.nil_append, List.drop_succ_cons, List.drop_zero, ax_qq_eq, ax_t_1433, e0, u0, h5, mo_f, hal, i1, i2, i4, i5, i6, i7, p1]
    rw [ax_j_1433_91]
    refine ih _ ?_ (fun j q1 => by rw [ax_up_ne _ _ q1]; exact f3 j q1)
    rw [← rcpy_s, ax_up_same]
end MM
