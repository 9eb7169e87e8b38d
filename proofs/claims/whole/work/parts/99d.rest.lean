/-! isWithin, pay, isRest in the big machine -/
def zNP (As : List Value) : Array Value → State → Prop := fun a _ => a = As.toArray
def zN (l : Launch) (bs d : Nat) (y : MethodName) (cc : ByteArray) (maxL : Nat) (ret : Option FieldType) (As : List Value) (r : Option Value) : Prop := Met l y (Cond.code y cc maxL ret :: ax_Tb) (ax_rm d 0 0) (zNP As) (zMQ r) 0 0 (fun q => bs ≤ q)
theorem zNP_b (As : List Value) : FrameBlind (zNP As) := fun a U g mk h => h
section ZN
variable {p : Program} {l : Launch} {e : Env} {R : Room} {s : State} {m : MethodId} {args : Array Value} {below : List Frame} {meth : Method} {c : Code} {H : Heap} {locs : List Loc} {cells slots : Nat} {Q : State → Prop} {cc bytes : ByteArray} {nL maxL index n d pc bs : Nat} {own : String} {y : MethodName} {ret : Option FieldType} {As rest : List Value} {ls : Array Slot} {r : Option Value}
theorem zcN (hx : p.tables.exec = Jvm.exec) (hb : c.code = cc) (hml : c.maxLocals = nL) (hown : s.vm.findClass own = some m.cls) (hts : ∀ w ∈ ax_Tb, w.before args s = true) (hM : zN l bs d y bytes maxL ret As r) (hw : zJw y bytes maxL ret own index n) (hs : Cond.static y ∈ lw_tbl) (hR : d + 1 ≤ R.frames) (hRl : 64 * (d + 1) ≤ R.locals) (hn : As.length = n) (hsize : ls.size = nL) (hcat : (rest.map fun v => v.category).sum ≤ 8) (hdg : decode cc pc = .ok (.invokestatic index, 3)) (hf : cells ≤ R.cells ∧ slots ≤ R.slots) (hL : ∀ q ∈ locs, bs ≤ q.base) (kk : ∀ locs', (∀ q ∈ locs', bs ≤ q.base) → W p l e R s m args below meth c H locs' cells slots Q (F0 m (pc + 3) ls (r.toList ++ rest))) : W p l e R s m args below meth c H locs cells slots Q (F0 m pc ls (As.reverse ++ rest)) := by
  refine z_after (va_runS (nL := nL) (Ts := ax_Tb) (own := own) ⟨hx, hb, hml, hown, hts⟩ hM ⟨zJ_B hts hw hR hRl, hts _ (ax_Tb_in hs rfl)⟩ ⟨zNP_b _, fun U hU hW => rfl⟩ rfl hn hsize rfl ?_ hdg hf) hL kk
  have : (F0 m pc ls (As.reverse ++ rest)).monitorRoom = 0 := rfl
  omega
end ZN
def yC_within : MethodName := ⟨"ShakingCourt", "isWithin", "(III)Z"⟩
def yE_pay : MethodName := ⟨"ShakingCourt$Seer", "pay", "(IIIII)I"⟩
def yE_isRest : MethodName := ⟨"ShakingCourt$Seer", "isRest", "(IIIII)Z"⟩
set_option maxRecDepth 100000 in
theorem zj_within : zJw yC_within prog_1_method_44_code 3 (some .boolean) "ShakingCourt" 145 3 := ⟨List.mem_of_getElem? (i := 526) rfl, List.mem_of_getElem? (i := 92) rfl, List.mem_of_getElem? (i := 776) rfl, by decide +kernel, by decide +kernel, by decide⟩
set_option maxRecDepth 100000 in
theorem zj_pay : zJw yE_pay prog_10_method_25_code 5 (some .int) "ShakingCourt$Seer" 166 5 := ⟨List.mem_of_getElem? (i := 1307) rfl, List.mem_of_getElem? (i := 102) rfl, List.mem_of_getElem? (i := 1305) rfl, by decide +kernel, by decide +kernel, by decide⟩
set_option maxRecDepth 100000 in
theorem zj_isRest : zJw yE_isRest prog_10_method_24_code 5 (some .boolean) "ShakingCourt" 258 5 := ⟨List.mem_of_getElem? (i := 1304) rfl, List.mem_of_getElem? (i := 102) rfl, List.mem_of_getElem? (i := 1302) rfl, by decide +kernel, by decide +kernel, by decide⟩
set_option maxRecDepth 100000 in
theorem zs_all : Cond.static yC_within ∈ lw_tbl ∧ Cond.static yE_pay ∈ lw_tbl ∧ Cond.static yE_isRest ∈ lw_tbl := ⟨List.mem_of_getElem? (i := 525) rfl, List.mem_of_getElem? (i := 1306) rfl, List.mem_of_getElem? (i := 1303) rfl⟩
theorem zc_within {l : Launch} {bs : Nat} (v a b : Int32) : zN l bs 0 yC_within prog_1_method_44_code 3 (some .boolean) [.int v, .int a, .int b] (some (.int (kx_b (kx_in v a b)))) := by
  refine va_MetF (cc := prog_1_method_44_code) (maxL := 3) (ret := (some .boolean)) (by decide +kernel) rfl ?_
  intro p e s m args below meth c s₁ B hml hv
  obtain rfl : args = List.toArray [.int v, .int a, .int b] := hv
  have hx := B.exec
  have hb := B.bytes
  have hr := B.returns
  have hlocks := B.notSynchronized
  have hts0 := atoms_spec (ws := Cond.code yC_within prog_1_method_44_code 3 (some .boolean) :: ax_Tb) B.pre
  have hts : ∀ w ∈ ax_Tb, w.before (List.toArray [.int v, .int a, .int b]) s = true := fun w hw => hts0 w (List.mem_cons_of_mem _ hw)
  have hown : s.vm.findClass "ShakingCourt" = some m.cls := findClass_of_methodNamed B.named
  have hl := lv_entry ([.int v, .int a, .int b]) (n := 3) (Nat.le_of_ble_eq_true rfl)
  rw [lg_entry_eq]
  generalize (lg_sl ([.int v, .int a, .int b]) ++ List.replicate (3 - (lg_sl ([.int v, .int a, .int b])).length) Slot.unset).toArray = ls at hl ⊢
  have hl : lv_has ls 3 [(0, .int v), (1, .int a), (2, .int b)] := hl
  have no : ¬ (a ≤ v ∧ v ≤ b) → W p l e (headSpec (Cond.code yC_within prog_1_method_44_code 3 (some .boolean) :: ax_Tb) (ax_rm 0 0 0)).room s m (List.toArray [.int v, .int a, .int b]) below meth c s.heap [] 0 0 (MQ below (zMQ (some (.int (kx_b (kx_in v a b))))) (List.toArray [.int v, .int a, .int b]) s 0 0 (fun q => bs ≤ q)) (F0 m 14 ls []) := by
    intro h
    refine lv_iconst hx hb dq_within_14 (v := 0) (by decide) ?_
    have e1 : kx_b (kx_in v a b) = 0 := by
      have h2 : kx_in v a b = false := by
        unfold kx_in
        simpa using h
      rw [h2]; rfl
    rw [e1]
    exact W.zret (ty := .boolean) hx hb hr (by decide) (fun t ht _ => ⟨rfl, ht⟩) (fun q hq => by cases hq) dq_within_15
  refine lv_iload_n hx hb dq_within_0 rfl (lv_at hl 0 rfl) ?_
  refine lv_iload_n hx hb dq_within_1 rfl (lv_at hl 1 rfl) ?_
  refine lv_icmp_lt hx hb dq_within_2 (tgt := 14) (by decide) (fun z => no (fun h => absurd h.1 (Int32.not_le.mpr z))) (fun z1 => ?_)
  refine lv_iload_n hx hb dq_within_5 rfl (lv_at hl 0 rfl) ?_
  refine lv_iload_n hx hb dq_within_6 rfl (lv_at hl 2 rfl) ?_
  refine lv_icmp_gt hx hb dq_within_7 (tgt := 14) (by decide) (fun z => no (fun h => absurd h.2 (Int32.not_le.mpr z))) (fun z2 => ?_)
  refine lv_iconst hx hb dq_within_10 (v := 1) (by decide) ?_
  refine lv_goto hx hb dq_within_11 (tgt := 15) (by decide) ?_
  have e1 : kx_b (kx_in v a b) = 1 := by
    have h2 : kx_in v a b = true := by
      unfold kx_in
      simpa using ⟨Int32.not_lt.mp z1, Int32.not_lt.mp z2⟩
    rw [h2]; rfl
  rw [e1]
  exact W.zret (ty := .boolean) hx hb hr (by decide) (fun t ht _ => ⟨rfl, ht⟩) (fun q hq => by cases hq) dq_within_15
theorem zc_pay {l : Launch} {bs : Nat} (f s0 b g0 g : Int32) : zN l bs 0 yE_pay prog_10_method_25_code 5 (some .int) [.int f, .int s0, .int b, .int g0, .int g] (some (.int (ax_pay f s0 b g0 g))) := by
  refine va_MetF (cc := prog_10_method_25_code) (maxL := 5) (ret := (some .int)) (by decide +kernel) rfl ?_
  intro p e s m args below meth c s₁ B hml hv
  obtain rfl : args = List.toArray [.int f, .int s0, .int b, .int g0, .int g] := hv
  have hx := B.exec
  have hb := B.bytes
  have hr := B.returns
  have hlocks := B.notSynchronized
  have hts0 := atoms_spec (ws := Cond.code yE_pay prog_10_method_25_code 5 (some .int) :: ax_Tb) B.pre
  have hts : ∀ w ∈ ax_Tb, w.before (List.toArray [.int f, .int s0, .int b, .int g0, .int g]) s = true := fun w hw => hts0 w (List.mem_cons_of_mem _ hw)
  have hown : s.vm.findClass "ShakingCourt$Seer" = some m.cls := findClass_of_methodNamed B.named
  have hl := lv_entry ([.int f, .int s0, .int b, .int g0, .int g]) (n := 5) (Nat.le_of_ble_eq_true rfl)
  rw [lg_entry_eq]
  generalize (lg_sl ([.int f, .int s0, .int b, .int g0, .int g]) ++ List.replicate (5 - (lg_sl ([.int f, .int s0, .int b, .int g0, .int g])).length) Slot.unset).toArray = ls at hl ⊢
  have hl : lv_has ls 5 [(0, .int f), (1, .int s0), (2, .int b), (3, .int g0), (4, .int g)] := hl
  unfold ax_pay
  refine lv_iload_n hx hb dq_pay_0 rfl (lv_at hl 0 rfl) ?_
  refine lv_iconst hx hb dq_pay_1 (v := 1) (by decide) ?_
  refine lv_icmp_ne hx hb dq_pay_2 (tgt := 17) (by decide) (fun z => ?_) (fun z => ?_)
  · rw [if_neg z]
    refine lv_iload_n hx hb dq_pay_17 rfl (lv_at hl 1 rfl) ?_
    refine lv_iconst hx hb dq_pay_18 (v := 1) (by decide) ?_
    refine lv_icmp_ne hx hb dq_pay_19 (tgt := 27) (by decide) (fun z => ?_) (fun z => ?_)
    · rw [if_neg z]
      refine lv_iconst hx hb dq_pay_27 (v := 0) (by decide) ?_
      exact W.iret hx hb hr (fun t ht _ => ⟨rfl, ht⟩) (fun q hq => by cases hq) dq_pay_28
    · rw [if_pos z]
      refine lv_iload hx hb dq_pay_22 (lv_at hl 4 rfl) ?_
      refine lv_goto hx hb dq_pay_24 (tgt := 28) (by decide) ?_
      exact W.iret hx hb hr (fun t ht _ => ⟨rfl, ht⟩) (fun q hq => by cases hq) dq_pay_28
  · rw [if_pos z]
    refine lv_iload_n hx hb dq_pay_5 rfl (lv_at hl 1 rfl) ?_
    refine lv_iconst hx hb dq_pay_6 (v := 1) (by decide) ?_
    refine lv_icmp_ne hx hb dq_pay_7 (tgt := 14) (by decide) (fun z => ?_) (fun z => ?_)
    · rw [if_neg z]
      refine lv_iload_n hx hb dq_pay_14 rfl (lv_at hl 3 rfl) ?_
      refine lv_ineg hx hb dq_pay_15 ?_
      exact W.iret hx hb hr (fun t ht _ => ⟨rfl, ht⟩) (fun q hq => by cases hq) dq_pay_16
    · rw [if_pos z]
      refine lv_iload_n hx hb dq_pay_10 rfl (lv_at hl 2 rfl) ?_
      refine lv_goto hx hb dq_pay_11 (tgt := 16) (by decide) ?_
      exact W.iret hx hb hr (fun t ht _ => ⟨rfl, ht⟩) (fun q hq => by cases hq) dq_pay_16
theorem zc_isRest {l : Launch} {bs : Nat} (f s0 b g0 g : Int32) : zN l bs 1 yE_isRest prog_10_method_24_code 5 (some .boolean) [.int f, .int s0, .int b, .int g0, .int g] (some (.int (kx_b (ax_isRest f s0 b g0 g)))) := by
  refine va_MetF (cc := prog_10_method_24_code) (maxL := 5) (ret := (some .boolean)) (by decide +kernel) rfl ?_
  intro p e s m args below meth c s₁ B hml hv
  obtain rfl : args = List.toArray [.int f, .int s0, .int b, .int g0, .int g] := hv
  have hx := B.exec
  have hb := B.bytes
  have hr := B.returns
  have hlocks := B.notSynchronized
  have hts0 := atoms_spec (ws := Cond.code yE_isRest prog_10_method_24_code 5 (some .boolean) :: ax_Tb) B.pre
  have hts : ∀ w ∈ ax_Tb, w.before (List.toArray [.int f, .int s0, .int b, .int g0, .int g]) s = true := fun w hw => hts0 w (List.mem_cons_of_mem _ hw)
  have hown : s.vm.findClass "ShakingCourt$Seer" = some m.cls := findClass_of_methodNamed B.named
  have hl := lv_entry ([.int f, .int s0, .int b, .int g0, .int g]) (n := 5) (Nat.le_of_ble_eq_true rfl)
  rw [lg_entry_eq]
  generalize (lg_sl ([.int f, .int s0, .int b, .int g0, .int g]) ++ List.replicate (5 - (lg_sl ([.int f, .int s0, .int b, .int g0, .int g])).length) Slot.unset).toArray = ls at hl ⊢
  have hl : lv_has ls 5 [(0, .int f), (1, .int s0), (2, .int b), (3, .int g0), (4, .int g)] := hl
  have no : ∀ locs' : List Loc, (∀ q ∈ locs', bs ≤ q.base) → ax_isRest f s0 b g0 g = false → W p l e (headSpec (Cond.code yE_isRest prog_10_method_24_code 5 (some .boolean) :: ax_Tb) (ax_rm 1 0 0)).room s m (List.toArray [.int f, .int s0, .int b, .int g0, .int g]) below meth c s.heap locs' 0 0 (MQ below (zMQ (some (.int (kx_b (ax_isRest f s0 b g0 g))))) (List.toArray [.int f, .int s0, .int b, .int g0, .int g]) s 0 0 (fun q => bs ≤ q)) (F0 m 50 ls []) := by
    intro locs' hL h
    refine lv_iconst hx hb dq_isRest_50 (v := 0) (by decide) ?_
    rw [h]
    exact W.zret (ty := .boolean) hx hb hr (by decide) (fun t ht _ => ⟨rfl, ht⟩) hL dq_isRest_51
  refine lv_iload_n hx hb dq_isRest_0 rfl (lv_at hl 0 rfl) ?_
  refine lv_iload_n hx hb dq_isRest_1 rfl (lv_at hl 1 rfl) ?_
  refine lv_iload_n hx hb dq_isRest_2 rfl (lv_at hl 2 rfl) ?_
  refine lv_iload_n hx hb dq_isRest_3 rfl (lv_at hl 3 rfl) ?_
  refine lv_iload hx hb dq_isRest_4 (lv_at hl 4 rfl) ?_
  refine zcN (bs := bs) (As := [.int f, .int s0, .int b, .int g0, .int g]) (rest := []) (nL := 5) hx hb hml hown hts (zc_pay f s0 b g0 g) zj_pay zs_all.2.1 (Nat.le_refl _) (Nat.le_refl _) rfl hl.1 (Nat.le_of_ble_eq_true rfl) dq_isRest_6 ⟨Nat.le_refl _, Nat.le_refl _⟩ (fun q hq => by cases hq) (fun locs' hL1 => ?_)
  refine lv_iconst hx hb dq_isRest_9 (v := 1) (by decide) ?_
  refine lv_iload_n hx hb dq_isRest_10 rfl (lv_at hl 0 rfl) ?_
  refine lv_isub hx hb dq_isRest_11 ?_
  refine lv_iload_n hx hb dq_isRest_12 rfl (lv_at hl 1 rfl) ?_
  refine lv_iload_n hx hb dq_isRest_13 rfl (lv_at hl 2 rfl) ?_
  refine lv_iload_n hx hb dq_isRest_14 rfl (lv_at hl 3 rfl) ?_
  refine lv_iload hx hb dq_isRest_15 (lv_at hl 4 rfl) ?_
  refine zcN (bs := bs) (As := [.int (1 - f), .int s0, .int b, .int g0, .int g]) (rest := [.int (ax_pay f s0 b g0 g)]) (nL := 5) hx hb hml hown hts (zc_pay (1 - f) s0 b g0 g) zj_pay zs_all.2.1 (Nat.le_refl _) (Nat.le_refl _) rfl hl.1 (Nat.le_of_ble_eq_true rfl) dq_isRest_17 ⟨Nat.le_refl _, Nat.le_refl _⟩ hL1 (fun locs' hL2 => ?_)
  refine lv_icmp_lt hx hb dq_isRest_20 (tgt := 50) (by decide) (fun z => no _ hL2 ?_) (fun z1 => ?_)
  · unfold ax_isRest
    rw [decide_eq_false (Int32.not_le.mpr z)]; rfl
  refine lv_iload_n hx hb dq_isRest_23 rfl (lv_at hl 1 rfl) ?_
  refine lv_iload_n hx hb dq_isRest_24 rfl (lv_at hl 0 rfl) ?_
  refine lv_iload_n hx hb dq_isRest_25 rfl (lv_at hl 2 rfl) ?_
  refine lv_iload_n hx hb dq_isRest_26 rfl (lv_at hl 3 rfl) ?_
  refine lv_iload hx hb dq_isRest_27 (lv_at hl 4 rfl) ?_
  refine zcN (bs := bs) (As := [.int s0, .int f, .int b, .int g0, .int g]) (rest := []) (nL := 5) hx hb hml hown hts (zc_pay s0 f b g0 g) zj_pay zs_all.2.1 (Nat.le_refl _) (Nat.le_refl _) rfl hl.1 (Nat.le_of_ble_eq_true rfl) dq_isRest_29 ⟨Nat.le_refl _, Nat.le_refl _⟩ hL2 (fun locs' hL3 => ?_)
  refine lv_iconst hx hb dq_isRest_32 (v := 1) (by decide) ?_
  refine lv_iload_n hx hb dq_isRest_33 rfl (lv_at hl 1 rfl) ?_
  refine lv_isub hx hb dq_isRest_34 ?_
  refine lv_iload_n hx hb dq_isRest_35 rfl (lv_at hl 0 rfl) ?_
  refine lv_iload_n hx hb dq_isRest_36 rfl (lv_at hl 2 rfl) ?_
  refine lv_iload_n hx hb dq_isRest_37 rfl (lv_at hl 3 rfl) ?_
  refine lv_iload hx hb dq_isRest_38 (lv_at hl 4 rfl) ?_
  refine zcN (bs := bs) (As := [.int (1 - s0), .int f, .int b, .int g0, .int g]) (rest := [.int (ax_pay s0 f b g0 g)]) (nL := 5) hx hb hml hown hts (zc_pay (1 - s0) f b g0 g) zj_pay zs_all.2.1 (Nat.le_refl _) (Nat.le_refl _) rfl hl.1 (Nat.le_of_ble_eq_true rfl) dq_isRest_40 ⟨Nat.le_refl _, Nat.le_refl _⟩ hL3 (fun locs' hL4 => ?_)
  refine lv_icmp_lt hx hb dq_isRest_43 (tgt := 50) (by decide) (fun z => no _ hL4 ?_) (fun z2 => ?_)
  · unfold ax_isRest
    rw [decide_eq_false (Int32.not_le.mpr z), Bool.and_false]
  refine lv_iconst hx hb dq_isRest_46 (v := 1) (by decide) ?_
  refine lv_goto hx hb dq_isRest_47 (tgt := 51) (by decide) ?_
  have e1 : ax_isRest f s0 b g0 g = true := by
    unfold ax_isRest
    rw [decide_eq_true (Int32.not_lt.mp z1), decide_eq_true (Int32.not_lt.mp z2)]; rfl
  rw [e1]
  exact W.zret (ty := .boolean) hx hb hr (by decide) (fun t ht _ => ⟨rfl, ht⟩) hL4 dq_isRest_51
