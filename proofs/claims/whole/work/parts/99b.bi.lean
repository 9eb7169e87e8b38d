/-! the builtins 2, 3: String.length, String.charAt of the words -/
theorem zr_all : ∀ (o k b : Nat), b = 2 ∨ b = 3 → (k, 3, (b : Int)) ∈ ax_res o → ax_nm o = "ShakingCourt$Tokens" ∧ k = (if b = 2 then 73 else 77) := by
  have h : (List.range 16).all (fun o => (ax_res o).all fun r => !(r.2.1 == 3) || ((!(decide (r.2.2 = 2)) || (decide (ax_nm o = "ShakingCourt$Tokens") && decide (r.1 = 73))) && (!(decide (r.2.2 = 3)) || (decide (ax_nm o = "ShakingCourt$Tokens") && decide (r.1 = 77))))) = true := by decide +kernel
  intro o k b hb hm
  have h16 : ∃ o', o' < 16 ∧ ax_res o = ax_res o' ∧ ax_nm o = ax_nm o' := by
    by_cases ho : o < 16
    · exact ⟨o, ho, rfl, rfl⟩
    · refine ⟨15, by decide, ?_, ?_⟩
      · match o, ho with
        | o + 16, _ => rfl
      · match o, ho with
        | o + 16, _ => rfl
  obtain ⟨o', ho', e1, e2⟩ := h16
  rw [e1] at hm
  have h1 := List.all_eq_true.mp (List.all_eq_true.mp h o' (List.mem_range.mpr ho')) _ hm
  rw [e2]
  rcases hb with rfl | rfl
  · simpa using h1
  · simpa using h1
theorem z_hY {bs q1 v1 b L : Nat} {xs : Nat → Int32} {s : State} {H : Heap} {locs : List Loc} {k : Nat} (h : zY bs q1 v1 s) (hS : va_S (fun q => bs ≤ q) s.heap H locs) (hz : bs + k ≤ s.heap.size) : ∀ U : State, U.heap = H → s.WarmedH U.vm → zY bs q1 v1 U :=
  fun U hU hW => zY_w h hW (fun q hq => by rw [hU]; exact hS.2.1 q (by omega) (by omega))
section ZB
variable {l : Launch} {Y : State → Prop} {b q1 v1 bs : Nat} {tA : Nat → ClassId} {D : va_G} {L : Nat} {xs : Nat → Int32}
theorem zB2 (hYz : ∀ U, Y U → zY bs q1 v1 U) : ax_Bt2 l (ax_sp b q1) bs tA D (ax_X0 b L xs bs q1 Y) L xs 2 := by
  intro k d nb sb M i len rest pc ls st n sl es Q m hm hdec hln henc hchk hF p e R s mid args below meth c n0 sl0 QF hC hE H locs cells slots LS hSx hll hLr hlku
  obtain ⟨hx, hb, hml, hret, hlk, hini, hown0, hts, hK, hfr, hlo, hnb, hsb, hsz, hscr⟩ := id hC
  have hown : s.vm.findClass (ax_nm (M / 128)) = some mid.cls := by rw [← ax_m_cls hm]; exact hown0
  have nx : ∀ ls' st' n' sl' es' H' locs' cells' slots' LS', ax_S l (ax_sp b q1) bs tA D (ax_X0 b L xs bs q1 Y) L xs d nb sb M rest (pc + len) ls' st' n' sl' es' Q → ax_Sx (ax_sp b q1) bs tA D L xs nb sb n0 sl0 s n' sl' es' H' locs' cells' slots' → ls'.length = m.2.2.1 → ax_lr (ax_sp b q1) bs LS' ls' → W p l e R s mid args below meth c H' locs' cells' slots' QF (F0 mid (pc + len) LS' (st'.map (ax_v (ax_sp b q1) bs))) :=
    fun ls' st' n' sl' es' H' locs' cells' slots' LS' hk h1 h2 h3 => hk m hm hchk p e R s mid args below meth c n0 sl0 QF hC hE H' locs' cells' slots' LS' h1 h2 h3
  have h1 : 3 = len := hln.resolve_left (show ¬ (3 = 0) by decide)
  subst h1
  dsimp only [ax_enc] at henc
  rw [hlku] at henc
  cases henc
  obtain ⟨en, ek⟩ := zr_all (M / 128) k 2 (Or.inl rfl) (ax_lookup_mem _ _ _ hlku)
  rw [en] at hown
  subst ek
  have hYs : zY bs q1 v1 s := hYz s hK.2.2.2.2.2.2.2
  simp only [ax_I, ax_bi] at hF
  split at hF
  · next st' =>
    obtain ⟨hd1, hcat, hF⟩ := hF
    obtain ⟨a1, a2, a3, a4, a5, a6⟩ := hSx
    refine zcV (As := []) (b := q1) (d := 1) (rest := st'.map (ax_v (ax_sp b q1) bs)) (nL := m.2.2.1) hx hb hml hown hts (z_hY (b := b) (L := L) (xs := xs) hYs a6 hsz.1) zc_length zj_length zi_length.1 zi_length.2 (vk_recv hYs.1 (i := 0) (by decide) a6) (by omega) (by omega) rfl (hLr.1.1.trans hll) ?_ hdec ⟨by omega, by omega⟩ a6.2.2 (fun locs' hL' => ?_)
    · rw [ax_cat_map]
      exact hcat
    · have e1 : nI 132 = Int32.ofNat ax_words.length := by rw [zst_len]; rfl
      rw [e1]
      exact nx _ _ _ _ _ _ _ _ _ _ hF ⟨a1, a2, a3, a4, a5, a6.1, a6.2.1, hL'⟩ hll hLr
  · exact hF.elim
theorem zB3 (hYz : ∀ U, Y U → zY bs q1 v1 U) : ax_Bt2 l (ax_sp b q1) bs tA D (ax_X0 b L xs bs q1 Y) L xs 3 := by
  intro k d nb sb M i len rest pc ls st n sl es Q m hm hdec hln henc hchk hF p e R s mid args below meth c n0 sl0 QF hC hE H locs cells slots LS hSx hll hLr hlku
  obtain ⟨hx, hb, hml, hret, hlk, hini, hown0, hts, hK, hfr, hlo, hnb, hsb, hsz, hscr⟩ := id hC
  have hown : s.vm.findClass (ax_nm (M / 128)) = some mid.cls := by rw [← ax_m_cls hm]; exact hown0
  have nx : ∀ ls' st' n' sl' es' H' locs' cells' slots' LS', ax_S l (ax_sp b q1) bs tA D (ax_X0 b L xs bs q1 Y) L xs d nb sb M rest (pc + len) ls' st' n' sl' es' Q → ax_Sx (ax_sp b q1) bs tA D L xs nb sb n0 sl0 s n' sl' es' H' locs' cells' slots' → ls'.length = m.2.2.1 → ax_lr (ax_sp b q1) bs LS' ls' → W p l e R s mid args below meth c H' locs' cells' slots' QF (F0 mid (pc + len) LS' (st'.map (ax_v (ax_sp b q1) bs))) :=
    fun ls' st' n' sl' es' H' locs' cells' slots' LS' hk h1 h2 h3 => hk m hm hchk p e R s mid args below meth c n0 sl0 QF hC hE H' locs' cells' slots' LS' h1 h2 h3
  have h1 : 3 = len := hln.resolve_left (show ¬ (3 = 0) by decide)
  subst h1
  dsimp only [ax_enc] at henc
  rw [hlku] at henc
  cases henc
  obtain ⟨en, ek⟩ := zr_all (M / 128) k 3 (Or.inr rfl) (ax_lookup_mem _ _ _ hlku)
  rw [en] at hown
  subst ek
  have hYs : zY bs q1 v1 s := hYz s hK.2.2.2.2.2.2.2
  simp only [ax_I, ax_bi] at hF
  split at hF
  · next i st' =>
    obtain ⟨hd1, hcat, hin, hF⟩ := hF
    obtain ⟨a1, a2, a3, a4, a5, a6⟩ := hSx
    rw [zst_len] at hin
    obtain ⟨j, hj, rfl⟩ := nI_of (x := i) (fun h => hin (Or.inl h))
    have hj2 : j < 132 := by
      have h9 : ¬ 132 ≤ (nI j).toNatClampNeg := fun h => hin (Or.inr h)
      rw [nI_clamp hj] at h9
      omega
    rw [nI_clamp hj, zst_all ⟨j, hj2⟩] at hF
    refine zcV (As := [.int (nI j)]) (b := q1) (d := 3) (rest := st'.map (ax_v (ax_sp b q1) bs)) (nL := m.2.2.1) hx hb hml hown hts (z_hY (b := b) (L := L) (xs := xs) hYs a6 hsz.1) (zc_charAt hj2) zj_charAt zi_charAt.1 zi_charAt.2 (vk_recv hYs.1 (i := 0) (by decide) a6) (by omega) (by omega) rfl (hLr.1.1.trans hll) ?_ hdec ⟨by omega, by omega⟩ a6.2.2 (fun locs' hL' => ?_)
    · rw [ax_cat_map]
      exact hcat
    · exact nx _ _ _ _ _ _ _ _ _ _ hF ⟨a1, a2, a3, a4, a5, a6.1, a6.2.1, hL'⟩ hll hLr
  · exact hF.elim
end ZB
