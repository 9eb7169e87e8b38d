/-! fields, arrays, new cells -/
def ax_kd (k : Nat) (t : FieldType) : Bool := match k, t with
  | 0, .int => true
  | 1, .long => true
  | 2, .object _ => true
  | 2, .array _ => true
  | 3, .boolean => true
  | _, _ => false
theorem ax_rf : (List.range 16).all (fun o => (ax_res o).all fun r => (!(r.2.1 == 0) || (decide (r.2.2.toNat / 256 < 12) && decide (r.2.2.toNat / 4 % 64 < ax_N (r.2.2.toNat / 256)) && ax_kd (r.2.2.toNat % 4) (ax_ty (r.2.2.toNat / 256) (r.2.2.toNat / 4 % 64)))) && (!(r.2.1 == 4) || decide (r.2.2.toNat < 12))) = true := by decide +kernel
theorem ax_cl_at {c : Nat} (h : c < 12) : ∃ r, ax_cl[c]? = some r := ⟨_, List.getElem?_eq_getElem (by simp [ax_cl]; omega)⟩
theorem ax_fld {M : Nat} {m : ax_M} (hm : ax_m M = some m) {k : Nat} {v : Int} (hl : (ax_res (M / 128)).lookup k = some (0, v)) : ∃ C T N, ax_cl[v.toNat / 256]? = some (C, T, N) ∧ v.toNat / 256 ≠ 12 ∧ v.toNat / 4 % 64 < N ∧ Cond.fieldLink (ax_nm (M / 128)) k (T (v.toNat / 4 % 64)).1 (T (v.toNat / 4 % 64)).2.1 (T (v.toNat / 4 % 64)).2.2.1 ∈ ax_Tb ∧ ax_kd (v.toNat % 4) (ax_ty (v.toNat / 256) (v.toNat / 4 % 64)) = true ∧ ax_fin v.toNat = (T (v.toNat / 4 % 64)).2.2.2 := by
  have hmem := ax_lookup_mem _ _ _ hl
  have h1 := List.all_eq_true.mp (List.all_eq_true.mp ax_rf _ (List.mem_range.mpr (ax_m_lt hm))) _ hmem
  simp only [Bool.and_eq_true, Bool.or_eq_true, Bool.not_eq_true', decide_eq_true_eq] at h1
  have h2 := h1.1.resolve_left (by decide)
  obtain ⟨⟨C, T, N⟩, hr⟩ := ax_cl_at h2.1.1
  have hw := ax_res_word hm hl
  have hok := ax_cl_ok _ _ hr (by omega)
  have e1 : ax_fd v.toNat = T (v.toNat / 4 % 64) := by unfold ax_fd; rw [hr]
  have hw2 : Cond.fieldLink (ax_nm (M / 128)) k (ax_fd v.toNat).1 (ax_fd v.toNat).2.1 (ax_fd v.toNat).2.2.1 ∈ lw_tbl := hw
  rw [e1] at hw2
  refine ⟨C, T, N, hr, by omega, ?_, ax_Tb_in hw2 rfl, h2.2, by unfold ax_fin; rw [hr]⟩
  have := h2.1.2
  rwa [hok.2.2.2.2.2.2] at this
theorem ax_cls {M : Nat} {m : ax_M} (hm : ax_m M = some m) {k : Nat} {v : Int} (hl : (ax_res (M / 128)).lookup k = some (4, v)) : v.toNat < 12 ∧ Cond.classLink (ax_nm (M / 128)) k (ax_nm v.toNat) ∈ ax_Tb := by
  have hmem := ax_lookup_mem _ _ _ hl
  have h1 := List.all_eq_true.mp (List.all_eq_true.mp ax_rf _ (List.mem_range.mpr (ax_m_lt hm))) _ hmem
  simp only [Bool.and_eq_true, Bool.or_eq_true, Bool.not_eq_true', decide_eq_true_eq] at h1
  exact ⟨h1.2.resolve_left (by decide), ax_Tb_in (ax_res_word hm hl : Cond.classLink (ax_nm (M / 128)) k (ax_nm v.toNat) ∈ lw_tbl) rfl⟩
theorem ax_fit_ok {k : Nat} {t : FieldType} {v : Value} (sp : Nat → Nat) (bs : Nat) (h1 : ax_kd k t = true) (h2 : ax_fit k v) : narrow t (ax_v sp bs v) = ax_v sp bs v ∧ fits t (ax_v sp bs v) = true := by
  unfold ax_fit at h2
  unfold ax_kd at h1
  split at h1 <;> first | (cases h1; done) | skip
  all_goals (cases v <;> first | exact ⟨rfl, rfl⟩ | exact h2.elim | skip)
  rcases h2 with rfl | rfl
  · exact ⟨(show narrow .boolean (.int 0) = .int 0 by decide), (show fits .boolean (.int 0) = true by decide)⟩
  · exact ⟨(show narrow .boolean (.int 1) = .int 1 by decide), (show fits .boolean (.int 1) = true by decide)⟩
theorem ax_S_self {A : Nat → Prop} {H0 H : Heap} {locs : List Loc} (h : va_S A H0 H locs) : va_S A H H locs := ⟨Nat.le_refl _, fun _ _ _ => rfl, h.2.2⟩
theorem ax_S_trans {A : Nat → Prop} {H0 H H1 : Heap} {locs locs1 : List Loc} (h : va_S A H0 H locs) (h1 : va_S A H H1 locs1) : va_S A H0 H1 locs1 :=
  ⟨Nat.le_trans h.1 h1.1, fun q a b => (h1.2.1 q (Nat.lt_of_lt_of_le a h.1) b).trans (h.2.1 q a b), h1.2.2⟩
theorem ax_al_le (n : Nat) : ax_al n ≤ n := Nat.min_le_left _ _
theorem ax_al_of {n : Nat} (h : n ≤ ax_NF) : ax_al n = n := Nat.min_eq_left h
theorem ax_up_scr {es : ax_H} {q n nb : Nat} (e : ax_E) (h1 : q < ax_al n) (h2 : n ≤ nb) (h3 : nb ≤ ax_scr) : ax_up es q e ax_scr = es ax_scr := by
  unfold ax_up
  rw [if_neg (by have := ax_al_le n; omega)]
theorem ax_up_scr' {es : ax_H} {n nb : Nat} (e : ax_E) (h2 : n + 1 ≤ nb) (h3 : nb ≤ ax_scr) : ax_up es n e ax_scr = es ax_scr := by
  unfold ax_up
  rw [if_neg (by omega)]
section AXD
variable {sp : Nat → Nat} {bs : Nat} {tA : Nat → ClassId} {D : va_G} {L : Nat} {xs : Nat → Int32} {nb sb n0 sl0 : Nat} {s : State} {n sl : Nat} {es es1 : ax_H} {H H1 : Heap} {locs locs1 : List Loc} {cells slots : Nat}
theorem ax_done (h : ax_Sx sp bs tA D L xs nb sb n0 sl0 s n sl es H locs cells slots) (hP1 : va_P D ax_cl (ax_ws sp bs tA (ax_al n) es1) H1) (hS1 : va_S (fun q => bs ≤ q) H H1 locs1) (hb1 : H1.size ≤ s.heap.size + cells) (hsz : bs + ax_al n0 ≤ s.heap.size ∧ (n0 ≤ ax_NF → s.heap.size = bs + n0)) (hes : es1 ax_scr = es ax_scr) : ax_Sx sp bs tA D L xs nb sb n0 sl0 s n sl es1 H1 locs1 cells slots := by
  obtain ⟨a1, a2, a3, a4, ⟨b1, b2, b3⟩, a6⟩ := h
  have := hS1.1
  refine ⟨a1, a2, a3, a4, ⟨hP1, ⟨by omega, fun hn => ?_⟩, hes.trans b3⟩, ax_S_trans a6 hS1⟩
  have h1 := hsz.2 (by omega)
  have h2 := b2.2 hn
  omega
theorem ax_fresh {q : Nat} {e : va_E} (h : ax_Sx sp bs tA D L xs nb sb n0 sl0 s n sl es H locs cells slots) (hP1 : va_P D ax_cl (ax_ws sp bs tA (ax_al n) es ++ [(q, e)]) H1) (hD1 : va_D (fun q => bs ≤ q) (ax_ws sp bs tA (ax_al n) es ++ [(q, e)])) (hb1 : H1.size ≤ s.heap.size + (cells + 1)) (hsz : bs + ax_al n0 ≤ s.heap.size ∧ (n0 ≤ ax_NF → s.heap.size = bs + n0)) (hNF : n + 1 ≤ ax_NF) : q = bs + n := by
  obtain ⟨a1, a2, a3, a4, ⟨b1, b2, b3⟩, a6⟩ := h
  rw [ax_al_of (by omega)] at hP1 hD1
  have h8 := hsz.2 (by omega)
  have hl : (ax_ws sp bs tA n es ++ [(q, e)])[n]? = some (q, e) := by
    rw [List.getElem?_append_right (by rw [ax_ws_len]; exact Nat.le_refl _), ax_ws_len, Nat.sub_self]
    rfl
  have h1 : q < H1.size := (hP1 n _ hl).lt
  have h2 : bs ≤ q := hD1.2 n _ hl
  by_cases hq : q - bs < n
  · have h3 : (ax_ws sp bs tA n es ++ [(q, e)])[q - bs]? = some (bs + (q - bs), ax_en sp bs tA (es (q - bs))) := by
      rw [List.getElem?_append_left (by rw [ax_ws_len]; exact hq), ax_ws_at _ _ _ _ hq]
    have h4 := hD1.1 _ _ _ _ h3 hl (show bs + (q - bs) = q by omega)
    omega
  · omega
theorem ax_made {e : ax_E} {ns : Nat} (h : ax_Sx sp bs tA D L xs nb sb n0 sl0 s n sl es H locs cells slots) (hP1 : va_P D ax_cl (ax_ws sp bs tA (ax_al n) es ++ [(bs + n, ax_en sp bs tA e)]) H1) (hS1 : va_S (fun q => bs ≤ q) H H1 locs1) (hb1 : H1.size ≤ s.heap.size + (cells + 1)) (hsz : bs + ax_al n0 ≤ s.heap.size ∧ (n0 ≤ ax_NF → s.heap.size = bs + n0)) (hNF : n + 1 ≤ ax_NF) (h1 : n + 1 ≤ nb) (h2 : sl + ns ≤ sb) (h3 : nb ≤ ax_scr) : ax_Sx sp bs tA D L xs nb sb n0 sl0 s (n + 1) (sl + ns) (ax_up es n e) H1 locs1 (cells + 1) (slots + ns) := by
  obtain ⟨a1, a2, a3, a4, ⟨b1, b2, b3⟩, a6⟩ := h
  rw [ax_al_of (by omega)] at hP1
  have h8 := hsz.2 (by omega)
  have hl : (ax_ws sp bs tA n es ++ [(bs + n, ax_en sp bs tA e)])[n]? = some (bs + n, ax_en sp bs tA e) := by
    rw [List.getElem?_append_right (by rw [ax_ws_len]; exact Nat.le_refl _), ax_ws_len, Nat.sub_self]
    rfl
  have h5 : bs + n < H1.size := (hP1 n _ hl).lt
  rw [ax_ws_push] at hP1
  refine ⟨by omega, by omega, h1, h2, ⟨by rw [ax_al_of hNF]; exact hP1, ⟨by rw [ax_al_of hNF]; omega, fun _ => by omega⟩, (ax_up_scr' e h1 h3).trans b3⟩, ax_S_trans a6 hS1⟩
end AXD
section AXSU
variable {l : Launch} {sp : Nat → Nat} {bs : Nat} {tA : Nat → ClassId} {D : va_G} {X : State → Prop} {L : Nat} {xs : Nat → Int32}
set_option maxHeartbeats 1000000 in
theorem ax_st_getfield (k : Nat) : ax_St l sp bs tA D X L xs (.getfield k) := by
  intro d nb sb M i len rest pc ls st n sl es Q m hm hdec hln henc hchk hF p e R s mid args below meth c n0 sl0 QF hC hE H locs cells slots LS hSx hll hLr
  obtain ⟨hx, hb, hml, hret, hlk, hini, hown0, hts, hK, hfr, hlo, hnb, hsb, hsz, hscr⟩ := id hC
  have hown : s.vm.findClass (ax_nm (M / 128)) = some mid.cls := by rw [← ax_m_cls hm]; exact hown0
  have nx : ∀ ls' st' n' sl' es' H' locs' cells' slots' LS', ax_S l sp bs tA D X L xs d nb sb M rest (pc + len) ls' st' n' sl' es' Q → ax_Sx sp bs tA D L xs nb sb n0 sl0 s n' sl' es' H' locs' cells' slots' → ls'.length = m.2.2.1 → ax_lr sp bs LS' ls' → W p l e R s mid args below meth c H' locs' cells' slots' QF (F0 mid (pc + len) LS' (st'.map (ax_v sp bs))) :=
    fun ls' st' n' sl' es' H' locs' cells' slots' LS' hk h1 h2 h3 => hk m hm hchk p e R s mid args below meth c n0 sl0 QF hC hE H' locs' cells' slots' LS' h1 h2 h3
  have nx0 : ∀ st', ax_S l sp bs tA D X L xs d nb sb M rest (pc + len) ls st' n sl es Q → W p l e R s mid args below meth c H locs cells slots QF (F0 mid (pc + len) LS (st'.map (ax_v sp bs))) := fun st' hk => nx _ _ _ _ _ _ _ _ _ _ hk hSx hll hLr
  have h1 : 3 = len := hln.resolve_left (show ¬ (3 = 0) by decide)
  subst h1
  dsimp only [ax_enc] at henc
  split at henc
  · next v hlk =>
    cases henc
    obtain ⟨C, T, N, hr, hr12, hk, hw, -⟩ := ax_fld hm hlk
    dsimp only [ax_I] at hF
    split at hF
    · next q st' =>
      obtain ⟨hq, hF⟩ := hF
      split at hF
      · next c' fs hes =>
        obtain ⟨hc, hF⟩ := hF
        split at hF
        · next u hv =>
          subst hc
          have he : (ax_ws sp bs tA (ax_al n) es)[q]? = some (bs + q, .inr (v.toNat / 256, fs.map (ax_v sp bs))) := by rw [ax_ws_at _ _ _ _ hq, hes]; rfl
          exact va_get hx hb hts (ax_cl_Tb hr hr12) hown hK.1 hSx.2.2.2.2.1.1 q he hr (v.toNat / 4 % 64) hk (hts _ hw) (fun _ h => h) (by rw [List.getElem?_map, hv]; rfl) hdec (nx0 _ hF)
        · exact hF.elim
      · exact hF.elim
    · exact hF.elim
  · cases henc
set_option maxHeartbeats 1000000 in
theorem ax_st_putfield (ax_fd_own : ∀ {o c k : Nat} {C : String} {T : u_T} {N : Nat}, ax_cl[c]? = some (C, T, N) → c ≠ 12 → k < N → c = o → (T k).1 = ax_nm o) (k : Nat) : ax_St l sp bs tA D X L xs (.putfield k) := by
  intro d nb sb M i len rest pc ls st n sl es Q m hm hdec hln henc hchk hF p e R s mid args below meth c n0 sl0 QF hC hE H locs cells slots LS hSx hll hLr
  obtain ⟨hx, hb, hml, hret, hlk, hini, hown0, hts, hK, hfr, hlo, hnb, hsb, hsz, hscr⟩ := id hC
  have hown : s.vm.findClass (ax_nm (M / 128)) = some mid.cls := by rw [← ax_m_cls hm]; exact hown0
  have nx : ∀ ls' st' n' sl' es' H' locs' cells' slots' LS', ax_S l sp bs tA D X L xs d nb sb M rest (pc + len) ls' st' n' sl' es' Q → ax_Sx sp bs tA D L xs nb sb n0 sl0 s n' sl' es' H' locs' cells' slots' → ls'.length = m.2.2.1 → ax_lr sp bs LS' ls' → W p l e R s mid args below meth c H' locs' cells' slots' QF (F0 mid (pc + len) LS' (st'.map (ax_v sp bs))) :=
    fun ls' st' n' sl' es' H' locs' cells' slots' LS' hk h1 h2 h3 => hk m hm hchk p e R s mid args below meth c n0 sl0 QF hC hE H' locs' cells' slots' LS' h1 h2 h3
  have nx0 : ∀ st', ax_S l sp bs tA D X L xs d nb sb M rest (pc + len) ls st' n sl es Q → W p l e R s mid args below meth c H locs cells slots QF (F0 mid (pc + len) LS (st'.map (ax_v sp bs))) := fun st' hk => nx _ _ _ _ _ _ _ _ _ _ hk hSx hll hLr
  have h1 : 3 = len := hln.resolve_left (show ¬ (3 = 0) by decide)
  subst h1
  dsimp only [ax_enc] at henc
  split at henc
  · next v hlk =>
    obtain ⟨C, T, N, hr, hr12, hk, hw, hkd, hfin⟩ := ax_fld hm hlk
    split at henc
    · next hf =>
      split at henc
      · next hin =>
        cases henc
        dsimp only [ax_I] at hF
        split at hF
        · next u q st' =>
          obtain ⟨hq, hF⟩ := hF
          split at hF
          · next c' fs hes =>
            obtain ⟨hc, hl, hfit, hF⟩ := hF
            subst hc
            have he : (ax_ws sp bs tA (ax_al n) es)[q]? = some (bs + q, .inr (v.toNat / 256, fs.map (ax_v sp bs))) := by rw [ax_ws_at _ _ _ _ hq, hes]; rfl
            have hok := ax_cl_ok _ _ hr hr12
            have hft := ax_fit_ok sp bs hkd hfit
            refine va_putF hx hb hts (ax_cl_Tb hr hr12) (ax_ty (v.toNat / 256)) hok.2.2.1 hok.2.1 hown hK.1 hSx.2.2.2.2.1.1 (ax_ws_D sp bs tA (ax_al n) es) (ax_S_self hSx.2.2.2.2.2) q he hr (v.toNat / 4 % 64) hk (hts _ hw) (fun _ h => h) (by rw [← hfin]; exact hf) (hini (by simpa using hin.1)) (ax_fd_own hr hr12 hk hin.2) (hok.2.2.1 _ hk) hft.1 hft.2 (by rw [List.length_map]; exact hl) hdec (fun H1 locs1 hP1 hD1 hS1 => ?_)
            refine ax_bound (fun hb1 => ?_)
            have hP1 : va_P D ax_cl (ax_ws sp bs tA (ax_al n) (ax_up es q (.inr (v.toNat / 256, fs.set (v.toNat / 4 % 64) u)))) H1 := by
              rw [← ax_ws_set]
              show va_P D ax_cl ((ax_ws sp bs tA (ax_al n) es).set q (bs + q, .inr (v.toNat / 256, (fs.set (v.toNat / 4 % 64) u).map (ax_v sp bs)))) H1
              rw [List.map_set]
              exact hP1
            exact nx _ _ _ _ _ _ _ _ _ _ hF (ax_done hSx hP1 hS1 hb1 hsz (ax_up_scr _ hq hSx.2.2.1 hscr)) hll hLr
    
          · exact hF.elim
        · exact hF.elim
      · cases henc
    · next hf =>
      cases henc
      dsimp only [ax_I] at hF
      split at hF
      · next u q st' =>
        obtain ⟨hq, hF⟩ := hF
        split at hF
        · next c' fs hes =>
          obtain ⟨hc, hl, hfit, hF⟩ := hF
          subst hc
          have he : (ax_ws sp bs tA (ax_al n) es)[q]? = some (bs + q, .inr (v.toNat / 256, fs.map (ax_v sp bs))) := by rw [ax_ws_at _ _ _ _ hq, hes]; rfl
          have hok := ax_cl_ok _ _ hr hr12
          have hft := ax_fit_ok sp bs hkd hfit
          refine va_put hx hb hts (ax_cl_Tb hr hr12) (ax_ty (v.toNat / 256)) hok.2.2.1 hok.2.1 hown hK.1 hSx.2.2.2.2.1.1 (ax_ws_D sp bs tA (ax_al n) es) (ax_S_self hSx.2.2.2.2.2) q he hr (v.toNat / 4 % 64) hk (hts _ hw) (fun _ h => h) (by rw [← hfin]; simpa using hf) (hok.2.2.1 _ hk) hft.1 hft.2 (by rw [List.length_map]; exact hl) hdec (fun H1 locs1 hP1 hD1 hS1 => ?_)
          refine ax_bound (fun hb1 => ?_)
          have hP1 : va_P D ax_cl (ax_ws sp bs tA (ax_al n) (ax_up es q (.inr (v.toNat / 256, fs.set (v.toNat / 4 % 64) u)))) H1 := by
            rw [← ax_ws_set]
            show va_P D ax_cl ((ax_ws sp bs tA (ax_al n) es).set q (bs + q, .inr (v.toNat / 256, (fs.set (v.toNat / 4 % 64) u).map (ax_v sp bs)))) H1
            rw [List.map_set]
            exact hP1
          exact nx _ _ _ _ _ _ _ _ _ _ hF (ax_done hSx hP1 hS1 hb1 hsz (ax_up_scr _ hq hSx.2.2.1 hscr)) hll hLr
  
        · exact hF.elim
      · exact hF.elim
  · cases henc
set_option maxHeartbeats 1000000 in
theorem ax_st_iaload (hScr : ∀ U : State, X U → va_X (sp 0) L xs U U.heap ∧ sp 0 < bs) : ax_St l sp bs tA D X L xs (.iaload) := by
  intro d nb sb M i len rest pc ls st n sl es Q m hm hdec hln henc hchk hF p e R s mid args below meth c n0 sl0 QF hC hE H locs cells slots LS hSx hll hLr
  obtain ⟨hx, hb, hml, hret, hlk, hini, hown0, hts, hK, hfr, hlo, hnb, hsb, hsz, hscr⟩ := id hC
  have hown : s.vm.findClass (ax_nm (M / 128)) = some mid.cls := by rw [← ax_m_cls hm]; exact hown0
  have nx : ∀ ls' st' n' sl' es' H' locs' cells' slots' LS', ax_S l sp bs tA D X L xs d nb sb M rest (pc + len) ls' st' n' sl' es' Q → ax_Sx sp bs tA D L xs nb sb n0 sl0 s n' sl' es' H' locs' cells' slots' → ls'.length = m.2.2.1 → ax_lr sp bs LS' ls' → W p l e R s mid args below meth c H' locs' cells' slots' QF (F0 mid (pc + len) LS' (st'.map (ax_v sp bs))) :=
    fun ls' st' n' sl' es' H' locs' cells' slots' LS' hk h1 h2 h3 => hk m hm hchk p e R s mid args below meth c n0 sl0 QF hC hE H' locs' cells' slots' LS' h1 h2 h3
  have nx0 : ∀ st', ax_S l sp bs tA D X L xs d nb sb M rest (pc + len) ls st' n sl es Q → W p l e R s mid args below meth c H locs cells slots QF (F0 mid (pc + len) LS (st'.map (ax_v sp bs))) := fun st' hk => nx _ _ _ _ _ _ _ _ _ _ hk hSx hll hLr
  have h1 : 1 = len := hln.resolve_left (show ¬ (1 = 0) by decide)
  subst h1
  cases henc
  dsimp only [ax_I] at hF
  split at hF
  · next j q st' =>
    obtain ⟨hq, hF⟩ := hF
    split at hF
    · next n1 f hes =>
      have he : (ax_ws sp bs tA (ax_al n) es)[q]? = some (bs + q, .inl (tA 0, n1, .inl f)) := by rw [ax_ws_at _ _ _ _ hq, hes]; rfl
      exact va_iald hx hb hK.1 hSx.2.2.2.2.1.1 q 0 he (ax_tys_at tA (by decide)) hF.1 hdec (nx0 _ hF.2)
    · exact hF.elim
  · next j st' =>
    have hs := hSx.2.2.2.2.1.2.2
    rw [hs] at hF
    obtain ⟨h2, h3⟩ := hScr s hK.2.2
    exact va_sld (b := sp 0) hx hb h2 (by have := hsz.1; omega) (by omega) hSx.2.2.2.2.2 hF.1 hdec (nx0 _ hF.2)
  · exact hF.elim
set_option maxHeartbeats 1000000 in
theorem ax_st_laload : ax_St l sp bs tA D X L xs (.laload) := by
  intro d nb sb M i len rest pc ls st n sl es Q m hm hdec hln henc hchk hF p e R s mid args below meth c n0 sl0 QF hC hE H locs cells slots LS hSx hll hLr
  obtain ⟨hx, hb, hml, hret, hlk, hini, hown0, hts, hK, hfr, hlo, hnb, hsb, hsz, hscr⟩ := id hC
  have hown : s.vm.findClass (ax_nm (M / 128)) = some mid.cls := by rw [← ax_m_cls hm]; exact hown0
  have nx : ∀ ls' st' n' sl' es' H' locs' cells' slots' LS', ax_S l sp bs tA D X L xs d nb sb M rest (pc + len) ls' st' n' sl' es' Q → ax_Sx sp bs tA D L xs nb sb n0 sl0 s n' sl' es' H' locs' cells' slots' → ls'.length = m.2.2.1 → ax_lr sp bs LS' ls' → W p l e R s mid args below meth c H' locs' cells' slots' QF (F0 mid (pc + len) LS' (st'.map (ax_v sp bs))) :=
    fun ls' st' n' sl' es' H' locs' cells' slots' LS' hk h1 h2 h3 => hk m hm hchk p e R s mid args below meth c n0 sl0 QF hC hE H' locs' cells' slots' LS' h1 h2 h3
  have nx0 : ∀ st', ax_S l sp bs tA D X L xs d nb sb M rest (pc + len) ls st' n sl es Q → W p l e R s mid args below meth c H locs cells slots QF (F0 mid (pc + len) LS (st'.map (ax_v sp bs))) := fun st' hk => nx _ _ _ _ _ _ _ _ _ _ hk hSx hll hLr
  have h1 : 1 = len := hln.resolve_left (show ¬ (1 = 0) by decide)
  subst h1
  cases henc
  dsimp only [ax_I] at hF
  split at hF
  · next j q st' =>
    obtain ⟨hq, hF⟩ := hF
    split at hF
    · next n1 f hes =>
      have he : (ax_ws sp bs tA (ax_al n) es)[q]? = some (bs + q, .inl (tA 3, n1, .inr (.inl f))) := by rw [ax_ws_at _ _ _ _ hq, hes]; rfl
      exact va_lald hx hb hK.1 hSx.2.2.2.2.1.1 q 3 he (ax_tys_at tA (by decide)) hF.1 hdec (nx0 _ hF.2)
    · exact hF.elim
  · exact hF.elim
set_option maxHeartbeats 1000000 in
theorem ax_st_baload : ax_St l sp bs tA D X L xs (.baload) := by
  intro d nb sb M i len rest pc ls st n sl es Q m hm hdec hln henc hchk hF p e R s mid args below meth c n0 sl0 QF hC hE H locs cells slots LS hSx hll hLr
  obtain ⟨hx, hb, hml, hret, hlk, hini, hown0, hts, hK, hfr, hlo, hnb, hsb, hsz, hscr⟩ := id hC
  have hown : s.vm.findClass (ax_nm (M / 128)) = some mid.cls := by rw [← ax_m_cls hm]; exact hown0
  have nx : ∀ ls' st' n' sl' es' H' locs' cells' slots' LS', ax_S l sp bs tA D X L xs d nb sb M rest (pc + len) ls' st' n' sl' es' Q → ax_Sx sp bs tA D L xs nb sb n0 sl0 s n' sl' es' H' locs' cells' slots' → ls'.length = m.2.2.1 → ax_lr sp bs LS' ls' → W p l e R s mid args below meth c H' locs' cells' slots' QF (F0 mid (pc + len) LS' (st'.map (ax_v sp bs))) :=
    fun ls' st' n' sl' es' H' locs' cells' slots' LS' hk h1 h2 h3 => hk m hm hchk p e R s mid args below meth c n0 sl0 QF hC hE H' locs' cells' slots' LS' h1 h2 h3
  have nx0 : ∀ st', ax_S l sp bs tA D X L xs d nb sb M rest (pc + len) ls st' n sl es Q → W p l e R s mid args below meth c H locs cells slots QF (F0 mid (pc + len) LS (st'.map (ax_v sp bs))) := fun st' hk => nx _ _ _ _ _ _ _ _ _ _ hk hSx hll hLr
  have h1 : 1 = len := hln.resolve_left (show ¬ (1 = 0) by decide)
  subst h1
  cases henc
  dsimp only [ax_I] at hF
  split at hF
  · next j q st' =>
    obtain ⟨hq, hF⟩ := hF
    split at hF
    · next n1 f hes =>
      have he : (ax_ws sp bs tA (ax_al n) es)[q]? = some (bs + q, .inl (tA 1, n1, .inl f)) := by rw [ax_ws_at _ _ _ _ hq, hes]; rfl
      exact va_bald hx hb hK.1 hSx.2.2.2.2.1.1 q 1 he (ax_tys_at tA (by decide)) hF.1 hdec (nx0 _ hF.2)
    · next n1 f hes =>
      have he : (ax_ws sp bs tA (ax_al n) es)[q]? = some (bs + q, .inl (tA 2, n1, .inl f)) := by rw [ax_ws_at _ _ _ _ hq, hes]; rfl
      exact va_zald hx hb hK.1 hSx.2.2.2.2.1.1 q 2 he (ax_tys_at tA (by decide)) hF.1 hdec (nx0 _ hF.2)
    · exact hF.elim
  · exact hF.elim
set_option maxHeartbeats 1000000 in
theorem ax_st_aaload : ax_St l sp bs tA D X L xs (.aaload) := by
  intro d nb sb M i len rest pc ls st n sl es Q m hm hdec hln henc hchk hF p e R s mid args below meth c n0 sl0 QF hC hE H locs cells slots LS hSx hll hLr
  obtain ⟨hx, hb, hml, hret, hlk, hini, hown0, hts, hK, hfr, hlo, hnb, hsb, hsz, hscr⟩ := id hC
  have hown : s.vm.findClass (ax_nm (M / 128)) = some mid.cls := by rw [← ax_m_cls hm]; exact hown0
  have nx : ∀ ls' st' n' sl' es' H' locs' cells' slots' LS', ax_S l sp bs tA D X L xs d nb sb M rest (pc + len) ls' st' n' sl' es' Q → ax_Sx sp bs tA D L xs nb sb n0 sl0 s n' sl' es' H' locs' cells' slots' → ls'.length = m.2.2.1 → ax_lr sp bs LS' ls' → W p l e R s mid args below meth c H' locs' cells' slots' QF (F0 mid (pc + len) LS' (st'.map (ax_v sp bs))) :=
    fun ls' st' n' sl' es' H' locs' cells' slots' LS' hk h1 h2 h3 => hk m hm hchk p e R s mid args below meth c n0 sl0 QF hC hE H' locs' cells' slots' LS' h1 h2 h3
  have nx0 : ∀ st', ax_S l sp bs tA D X L xs d nb sb M rest (pc + len) ls st' n sl es Q → W p l e R s mid args below meth c H locs cells slots QF (F0 mid (pc + len) LS (st'.map (ax_v sp bs))) := fun st' hk => nx _ _ _ _ _ _ _ _ _ _ hk hSx hll hLr
  have h1 : 1 = len := hln.resolve_left (show ¬ (1 = 0) by decide)
  subst h1
  cases henc
  dsimp only [ax_I] at hF
  split at hF
  · next j q st' =>
    obtain ⟨hq, hF⟩ := hF
    split at hF
    · next t n1 f hes =>
      obtain ⟨ht, hin, hF⟩ := hF
      split at hF
      · next k hfk =>
        rcases ht with rfl | rfl
        · have he : (ax_ws sp bs tA (ax_al n) es)[q]? = some (bs + q, .inl (tA 4, n1, .inr (.inr (.inr (.inr fun i => (f i).map fun k => bs + k))))) := by rw [ax_ws_at _ _ _ _ hq, hes]; rfl
          refine va_aldq hx hb hK.1 hSx.2.2.2.2.1.1 q 4 he (ax_tys_at tA (by decide)) hin hdec ?_
          show W p l e R s mid args below meth c H locs cells slots QF (F0 mid (pc + 1) LS (va_rf ((f j.toNatClampNeg).map fun k => bs + k) :: _))
          rw [hfk]
          exact nx0 _ hF
        · have he : (ax_ws sp bs tA (ax_al n) es)[q]? = some (bs + q, .inl (tA 5, n1, .inr (.inr (.inr (.inr fun i => (f i).map fun k => bs + k))))) := by rw [ax_ws_at _ _ _ _ hq, hes]; rfl
          refine va_aldq hx hb hK.1 hSx.2.2.2.2.1.1 q 5 he (ax_tys_at tA (by decide)) hin hdec ?_
          show W p l e R s mid args below meth c H locs cells slots QF (F0 mid (pc + 1) LS (va_rf ((f j.toNatClampNeg).map fun k => bs + k) :: _))
          rw [hfk]
          exact nx0 _ hF
      · exact hF.elim
    · exact hF.elim
  · exact hF.elim
set_option maxHeartbeats 1000000 in
theorem ax_st_iastore : ax_St l sp bs tA D X L xs (.iastore) := by
  intro d nb sb M i len rest pc ls st n sl es Q m hm hdec hln henc hchk hF p e R s mid args below meth c n0 sl0 QF hC hE H locs cells slots LS hSx hll hLr
  obtain ⟨hx, hb, hml, hret, hlk, hini, hown0, hts, hK, hfr, hlo, hnb, hsb, hsz, hscr⟩ := id hC
  have hown : s.vm.findClass (ax_nm (M / 128)) = some mid.cls := by rw [← ax_m_cls hm]; exact hown0
  have nx : ∀ ls' st' n' sl' es' H' locs' cells' slots' LS', ax_S l sp bs tA D X L xs d nb sb M rest (pc + len) ls' st' n' sl' es' Q → ax_Sx sp bs tA D L xs nb sb n0 sl0 s n' sl' es' H' locs' cells' slots' → ls'.length = m.2.2.1 → ax_lr sp bs LS' ls' → W p l e R s mid args below meth c H' locs' cells' slots' QF (F0 mid (pc + len) LS' (st'.map (ax_v sp bs))) :=
    fun ls' st' n' sl' es' H' locs' cells' slots' LS' hk h1 h2 h3 => hk m hm hchk p e R s mid args below meth c n0 sl0 QF hC hE H' locs' cells' slots' LS' h1 h2 h3
  have nx0 : ∀ st', ax_S l sp bs tA D X L xs d nb sb M rest (pc + len) ls st' n sl es Q → W p l e R s mid args below meth c H locs cells slots QF (F0 mid (pc + len) LS (st'.map (ax_v sp bs))) := fun st' hk => nx _ _ _ _ _ _ _ _ _ _ hk hSx hll hLr
  have h1 : 1 = len := hln.resolve_left (show ¬ (1 = 0) by decide)
  subst h1
  cases henc
  dsimp only [ax_I] at hF
  split at hF
  · next u j q st' =>
    obtain ⟨hq, hF⟩ := hF
    split at hF
    · next n1 f hes =>
      have he : (ax_ws sp bs tA (ax_al n) es)[q]? = some (bs + q, .inl (tA 0, n1, .inl f)) := by rw [ax_ws_at _ _ _ _ hq, hes]; rfl
      refine va_iast hx hb hK.1 hSx.2.2.2.2.1.1 (ax_ws_D sp bs tA (ax_al n) es) (ax_S_self hSx.2.2.2.2.2) q 0 he (ax_tys_at tA (by decide)) hF.1 hdec (fun H1 locs1 hP1 hD1 hS1 => ?_)
      refine ax_bound (fun hb1 => ?_)
      have hP1 : va_P D ax_cl (ax_ws sp bs tA (ax_al n) (ax_up es q (.inl (0, n1, .inl (upd f j.toNatClampNeg u))))) H1 := by
        rw [← ax_ws_set]
        exact hP1
      exact nx _ _ _ _ _ _ _ _ _ _ hF.2 (ax_done hSx hP1 hS1 hb1 hsz (ax_up_scr _ hq hSx.2.2.1 hscr)) hll hLr
    · exact hF.elim
  · exact hF.elim
set_option maxHeartbeats 1000000 in
theorem ax_st_lastore : ax_St l sp bs tA D X L xs (.lastore) := by
  intro d nb sb M i len rest pc ls st n sl es Q m hm hdec hln henc hchk hF p e R s mid args below meth c n0 sl0 QF hC hE H locs cells slots LS hSx hll hLr
  obtain ⟨hx, hb, hml, hret, hlk, hini, hown0, hts, hK, hfr, hlo, hnb, hsb, hsz, hscr⟩ := id hC
  have hown : s.vm.findClass (ax_nm (M / 128)) = some mid.cls := by rw [← ax_m_cls hm]; exact hown0
  have nx : ∀ ls' st' n' sl' es' H' locs' cells' slots' LS', ax_S l sp bs tA D X L xs d nb sb M rest (pc + len) ls' st' n' sl' es' Q → ax_Sx sp bs tA D L xs nb sb n0 sl0 s n' sl' es' H' locs' cells' slots' → ls'.length = m.2.2.1 → ax_lr sp bs LS' ls' → W p l e R s mid args below meth c H' locs' cells' slots' QF (F0 mid (pc + len) LS' (st'.map (ax_v sp bs))) :=
    fun ls' st' n' sl' es' H' locs' cells' slots' LS' hk h1 h2 h3 => hk m hm hchk p e R s mid args below meth c n0 sl0 QF hC hE H' locs' cells' slots' LS' h1 h2 h3
  have nx0 : ∀ st', ax_S l sp bs tA D X L xs d nb sb M rest (pc + len) ls st' n sl es Q → W p l e R s mid args below meth c H locs cells slots QF (F0 mid (pc + len) LS (st'.map (ax_v sp bs))) := fun st' hk => nx _ _ _ _ _ _ _ _ _ _ hk hSx hll hLr
  have h1 : 1 = len := hln.resolve_left (show ¬ (1 = 0) by decide)
  subst h1
  cases henc
  dsimp only [ax_I] at hF
  split at hF
  · next u j q st' =>
    obtain ⟨hq, hF⟩ := hF
    split at hF
    · next n1 f hes =>
      have he : (ax_ws sp bs tA (ax_al n) es)[q]? = some (bs + q, .inl (tA 3, n1, .inr (.inl f))) := by rw [ax_ws_at _ _ _ _ hq, hes]; rfl
      refine va_last hx hb hK.1 hSx.2.2.2.2.1.1 (ax_ws_D sp bs tA (ax_al n) es) (ax_S_self hSx.2.2.2.2.2) q 3 he (ax_tys_at tA (by decide)) hF.1 hdec (fun H1 locs1 hP1 hD1 hS1 => ?_)
      refine ax_bound (fun hb1 => ?_)
      have hP1 : va_P D ax_cl (ax_ws sp bs tA (ax_al n) (ax_up es q (.inl (3, n1, .inr (.inl (vp_updL f j.toNatClampNeg u)))))) H1 := by
        rw [← ax_ws_set]
        exact hP1
      exact nx _ _ _ _ _ _ _ _ _ _ hF.2 (ax_done hSx hP1 hS1 hb1 hsz (ax_up_scr _ hq hSx.2.2.1 hscr)) hll hLr
    · exact hF.elim
  · exact hF.elim
set_option maxHeartbeats 1000000 in
theorem ax_st_bastore : ax_St l sp bs tA D X L xs (.bastore) := by
  intro d nb sb M i len rest pc ls st n sl es Q m hm hdec hln henc hchk hF p e R s mid args below meth c n0 sl0 QF hC hE H locs cells slots LS hSx hll hLr
  obtain ⟨hx, hb, hml, hret, hlk, hini, hown0, hts, hK, hfr, hlo, hnb, hsb, hsz, hscr⟩ := id hC
  have hown : s.vm.findClass (ax_nm (M / 128)) = some mid.cls := by rw [← ax_m_cls hm]; exact hown0
  have nx : ∀ ls' st' n' sl' es' H' locs' cells' slots' LS', ax_S l sp bs tA D X L xs d nb sb M rest (pc + len) ls' st' n' sl' es' Q → ax_Sx sp bs tA D L xs nb sb n0 sl0 s n' sl' es' H' locs' cells' slots' → ls'.length = m.2.2.1 → ax_lr sp bs LS' ls' → W p l e R s mid args below meth c H' locs' cells' slots' QF (F0 mid (pc + len) LS' (st'.map (ax_v sp bs))) :=
    fun ls' st' n' sl' es' H' locs' cells' slots' LS' hk h1 h2 h3 => hk m hm hchk p e R s mid args below meth c n0 sl0 QF hC hE H' locs' cells' slots' LS' h1 h2 h3
  have nx0 : ∀ st', ax_S l sp bs tA D X L xs d nb sb M rest (pc + len) ls st' n sl es Q → W p l e R s mid args below meth c H locs cells slots QF (F0 mid (pc + len) LS (st'.map (ax_v sp bs))) := fun st' hk => nx _ _ _ _ _ _ _ _ _ _ hk hSx hll hLr
  have h1 : 1 = len := hln.resolve_left (show ¬ (1 = 0) by decide)
  subst h1
  cases henc
  dsimp only [ax_I] at hF
  split at hF
  · next u j q st' =>
    obtain ⟨hq, hF⟩ := hF
    split at hF
    · next n1 f hes =>
      have he : (ax_ws sp bs tA (ax_al n) es)[q]? = some (bs + q, .inl (tA 1, n1, .inl f)) := by rw [ax_ws_at _ _ _ _ hq, hes]; rfl
      refine va_bast hx hb hK.1 hSx.2.2.2.2.1.1 (ax_ws_D sp bs tA (ax_al n) es) (ax_S_self hSx.2.2.2.2.2) q 1 he (ax_tys_at tA (by decide)) hF.1 hdec (fun H1 locs1 hP1 hD1 hS1 => ?_)
      refine ax_bound (fun hb1 => ?_)
      have hP1 : va_P D ax_cl (ax_ws sp bs tA (ax_al n) (ax_up es q (.inl (1, n1, .inl (upd f j.toNatClampNeg (vp_nar .byte u)))))) H1 := by
        rw [← ax_ws_set]
        exact hP1
      exact nx _ _ _ _ _ _ _ _ _ _ hF.2 (ax_done hSx hP1 hS1 hb1 hsz (ax_up_scr _ hq hSx.2.2.1 hscr)) hll hLr
    · next n1 f hes =>
      have he : (ax_ws sp bs tA (ax_al n) es)[q]? = some (bs + q, .inl (tA 2, n1, .inl f)) := by rw [ax_ws_at _ _ _ _ hq, hes]; rfl
      refine va_zast hx hb hK.1 hSx.2.2.2.2.1.1 (ax_ws_D sp bs tA (ax_al n) es) (ax_S_self hSx.2.2.2.2.2) q 2 he (ax_tys_at tA (by decide)) hF.1 hdec (fun H1 locs1 hP1 hD1 hS1 => ?_)
      refine ax_bound (fun hb1 => ?_)
      have hP1 : va_P D ax_cl (ax_ws sp bs tA (ax_al n) (ax_up es q (.inl (2, n1, .inl (upd f j.toNatClampNeg (vp_nar .boolean u)))))) H1 := by
        rw [← ax_ws_set]
        exact hP1
      exact nx _ _ _ _ _ _ _ _ _ _ hF.2 (ax_done hSx hP1 hS1 hb1 hsz (ax_up_scr _ hq hSx.2.2.1 hscr)) hll hLr
    · exact hF.elim
  · exact hF.elim
set_option maxHeartbeats 1000000 in
theorem ax_st_aastore : ax_St l sp bs tA D X L xs (.aastore) := by
  intro d nb sb M i len rest pc ls st n sl es Q m hm hdec hln henc hchk hF p e R s mid args below meth c n0 sl0 QF hC hE H locs cells slots LS hSx hll hLr
  obtain ⟨hx, hb, hml, hret, hlk, hini, hown0, hts, hK, hfr, hlo, hnb, hsb, hsz, hscr⟩ := id hC
  have hown : s.vm.findClass (ax_nm (M / 128)) = some mid.cls := by rw [← ax_m_cls hm]; exact hown0
  have nx : ∀ ls' st' n' sl' es' H' locs' cells' slots' LS', ax_S l sp bs tA D X L xs d nb sb M rest (pc + len) ls' st' n' sl' es' Q → ax_Sx sp bs tA D L xs nb sb n0 sl0 s n' sl' es' H' locs' cells' slots' → ls'.length = m.2.2.1 → ax_lr sp bs LS' ls' → W p l e R s mid args below meth c H' locs' cells' slots' QF (F0 mid (pc + len) LS' (st'.map (ax_v sp bs))) :=
    fun ls' st' n' sl' es' H' locs' cells' slots' LS' hk h1 h2 h3 => hk m hm hchk p e R s mid args below meth c n0 sl0 QF hC hE H' locs' cells' slots' LS' h1 h2 h3
  have nx0 : ∀ st', ax_S l sp bs tA D X L xs d nb sb M rest (pc + len) ls st' n sl es Q → W p l e R s mid args below meth c H locs cells slots QF (F0 mid (pc + len) LS (st'.map (ax_v sp bs))) := fun st' hk => nx _ _ _ _ _ _ _ _ _ _ hk hSx hll hLr
  have h1 : 1 = len := hln.resolve_left (show ¬ (1 = 0) by decide)
  subst h1
  cases henc
  dsimp only [ax_I] at hF
  split at hF
  · next v j q st' =>
    obtain ⟨hq, hv, hF⟩ := hF
    split at hF
    · next n1 f vs hes hev =>
      have he : (ax_ws sp bs tA (ax_al n) es)[q]? = some (bs + q, .inl (tA 4, n1, .inr (.inr (.inr (.inr fun i => (f i).map fun k => bs + k))))) := by rw [ax_ws_at _ _ _ _ hq, hes]; rfl
      have he2 : (ax_ws sp bs tA (ax_al n) es)[v]? = some (bs + v, .inr (0, vs.map (ax_v sp bs))) := by rw [ax_ws_at _ _ _ _ hv, hev]; rfl
      refine va_astq (r := ("ShakingCourt$Bowl", ax_T0, 7)) hx hb hK.1 hSx.2.2.2.2.1.1 (ax_ws_D sp bs tA (ax_al n) es) (ax_S_self hSx.2.2.2.2.2) q 4 v 0 he (ax_tys_at tA (t := 4) (by decide)) he2 rfl hF.1 hdec (fun H1 locs1 hP1 hD1 hS1 => ?_)
      refine ax_bound (fun hb1 => ?_)
      have hP1 : va_P D ax_cl (ax_ws sp bs tA (ax_al n) (ax_up es q (.inl (4, n1, .inr (.inr (.inr (.inr (va_up f j.toNatClampNeg (some v))))))))) H1 := by
        rw [← ax_ws_set]
        have e9 : (fun i => (va_up f j.toNatClampNeg (some v) i).map fun k => bs + k) = va_up (fun i => (f i).map fun k => bs + k) j.toNatClampNeg (some (bs + v)) := by
          funext i
          unfold va_up
          split <;> rfl
        show va_P D ax_cl ((ax_ws sp bs tA (ax_al n) es).set q (bs + q, .inl (tA 4, n1, .inr (.inr (.inr (.inr fun i => (va_up f j.toNatClampNeg (some v) i).map fun k => bs + k)))))) H1
        rw [e9]
        exact hP1
      exact nx _ _ _ _ _ _ _ _ _ _ hF.2 (ax_done hSx hP1 hS1 hb1 hsz (ax_up_scr _ hq hSx.2.2.1 hscr)) hll hLr
    · next n1 f vs hes hev =>
      have he : (ax_ws sp bs tA (ax_al n) es)[q]? = some (bs + q, .inl (tA 5, n1, .inr (.inr (.inr (.inr fun i => (f i).map fun k => bs + k))))) := by rw [ax_ws_at _ _ _ _ hq, hes]; rfl
      have he2 : (ax_ws sp bs tA (ax_al n) es)[v]? = some (bs + v, .inr (2, vs.map (ax_v sp bs))) := by rw [ax_ws_at _ _ _ _ hv, hev]; rfl
      refine va_astq (r := ("ShakingCourt$Felt", ax_T2, 4)) hx hb hK.1 hSx.2.2.2.2.1.1 (ax_ws_D sp bs tA (ax_al n) es) (ax_S_self hSx.2.2.2.2.2) q 5 v 2 he (ax_tys_at tA (t := 5) (by decide)) he2 rfl hF.1 hdec (fun H1 locs1 hP1 hD1 hS1 => ?_)
      refine ax_bound (fun hb1 => ?_)
      have hP1 : va_P D ax_cl (ax_ws sp bs tA (ax_al n) (ax_up es q (.inl (5, n1, .inr (.inr (.inr (.inr (va_up f j.toNatClampNeg (some v))))))))) H1 := by
        rw [← ax_ws_set]
        have e9 : (fun i => (va_up f j.toNatClampNeg (some v) i).map fun k => bs + k) = va_up (fun i => (f i).map fun k => bs + k) j.toNatClampNeg (some (bs + v)) := by
          funext i
          unfold va_up
          split <;> rfl
        show va_P D ax_cl ((ax_ws sp bs tA (ax_al n) es).set q (bs + q, .inl (tA 5, n1, .inr (.inr (.inr (.inr fun i => (va_up f j.toNatClampNeg (some v) i).map fun k => bs + k)))))) H1
        rw [e9]
        exact hP1
      exact nx _ _ _ _ _ _ _ _ _ _ hF.2 (ax_done hSx hP1 hS1 hb1 hsz (ax_up_scr _ hq hSx.2.2.1 hscr)) hll hLr
    · exact hF.elim
  · exact hF.elim
set_option maxHeartbeats 1000000 in
theorem ax_st_arraylength (hScr : ∀ U : State, X U → va_X (sp 0) L xs U U.heap ∧ sp 0 < bs) : ax_St l sp bs tA D X L xs (.arraylength) := by
  intro d nb sb M i len rest pc ls st n sl es Q m hm hdec hln henc hchk hF p e R s mid args below meth c n0 sl0 QF hC hE H locs cells slots LS hSx hll hLr
  obtain ⟨hx, hb, hml, hret, hlk, hini, hown0, hts, hK, hfr, hlo, hnb, hsb, hsz, hscr⟩ := id hC
  have hown : s.vm.findClass (ax_nm (M / 128)) = some mid.cls := by rw [← ax_m_cls hm]; exact hown0
  have nx : ∀ ls' st' n' sl' es' H' locs' cells' slots' LS', ax_S l sp bs tA D X L xs d nb sb M rest (pc + len) ls' st' n' sl' es' Q → ax_Sx sp bs tA D L xs nb sb n0 sl0 s n' sl' es' H' locs' cells' slots' → ls'.length = m.2.2.1 → ax_lr sp bs LS' ls' → W p l e R s mid args below meth c H' locs' cells' slots' QF (F0 mid (pc + len) LS' (st'.map (ax_v sp bs))) :=
    fun ls' st' n' sl' es' H' locs' cells' slots' LS' hk h1 h2 h3 => hk m hm hchk p e R s mid args below meth c n0 sl0 QF hC hE H' locs' cells' slots' LS' h1 h2 h3
  have nx0 : ∀ st', ax_S l sp bs tA D X L xs d nb sb M rest (pc + len) ls st' n sl es Q → W p l e R s mid args below meth c H locs cells slots QF (F0 mid (pc + len) LS (st'.map (ax_v sp bs))) := fun st' hk => nx _ _ _ _ _ _ _ _ _ _ hk hSx hll hLr
  have h1 : 1 = len := hln.resolve_left (show ¬ (1 = 0) by decide)
  subst h1
  cases henc
  dsimp only [ax_I] at hF
  split at hF
  · next q st' =>
    obtain ⟨hq, hF⟩ := hF
    split at hF
    · next t n1 x hes =>
      have he : (ax_ws sp bs tA (ax_al n) es)[q]? = some (bs + q, .inl (tA t, ax_ar bs (n1, x))) := by rw [ax_ws_at _ _ _ _ hq, hes]; rfl
      have e1 : (ax_ar bs (n1, x)).1 = n1 := by unfold ax_ar; split <;> first | rfl | (next h => cases h; rfl)
      exact va_alen hx hb hK.1 hSx.2.2.2.2.1.1 q t he (ax_tys_at tA hF.1) (by rw [e1]) hdec (nx0 _ hF.2)
    · exact hF.elim
  · next st' =>
    have hs := hSx.2.2.2.2.1.2.2
    rw [hs] at hF
    obtain ⟨h2, h3⟩ := hScr s hK.2.2
    exact va_slen (b := sp 0) hx hb h2 (by have := hsz.1; omega) (by omega) hSx.2.2.2.2.2 hdec (nx0 _ hF)
  · exact hF.elim
end AXSU
