/-! the words: String.length, String.charAt -/
def zyb : List Int32 := zst.map nI
def zY (bs q1 v1 : Nat) (U : State) : Prop := vk_S 1 [132] [zyb] (fun _ => q1) (fun _ => v1) (fun q => bs ≤ q) U U.heap ∧ va_Z "java/lang/String" "COMPACT_STRINGS" "Z" (.int 1) (fun q => bs ≤ q) U U.heap ∧ ∃ v, va_Z "jdk/internal/util/Preconditions" "SIOOBE_FORMATTER" "Ljava/util/function/BiFunction;" v (fun q => bs ≤ q) U U.heap ∧ (v = .null ∨ ∃ a, v = .ref a)
theorem zY_c {bs q1 v1 : Nat} {U : State} (g : JFrame) (mk : MethodId) (a : Array Value) (h : zY bs q1 v1 U) : zY bs q1 v1 (U.calling g mk a) := by
  obtain ⟨h1, h2, v, h3, h4⟩ := h
  exact ⟨vk_S.moved (u := U) (U := U.calling g mk a) (Vm.Alike.refl U.vm) h1, va_Z.moved (u := U) (U := U.calling g mk a) (Vm.Alike.refl U.vm) h2, v, va_Z.moved (u := U) (U := U.calling g mk a) (Vm.Alike.refl U.vm) h3, h4⟩
theorem zY_w {bs q1 v1 : Nat} {U U' : State} (h : zY bs q1 v1 U) (hW : U.WarmedH U'.vm) (hq : ∀ q, q < bs → U'.heap[q]? = U.heap[q]?) : zY bs q1 v1 U' := by
  obtain ⟨h1, h2, v, h3, h4⟩ := h
  have hk : ∀ a : Nat, a < U.heap.size → ¬ bs ≤ a → U'.heap[a]? = U.heap[a]? := fun a _ h => hq a (by omega)
  exact ⟨(vk_S.moved hW.alike h1).kept hk, (va_Z.moved hW.alike h2).kept hk, v, (va_Z.moved hW.alike h3).kept hk, h4⟩
def zMP (bs q1 v1 : Nat) (As : List Value) : Array Value → State → Prop := fun a U => a = As.toArray ∧ zY bs q1 v1 U
def zMQ (r : Option Value) : Array Value → State → Outcome → State → Prop := fun _ st o t => o = .returned r ∧ t.heap = st.heap
def zM (l : Launch) (bs q1 v1 d : Nat) (y : MethodName) (cc : ByteArray) (maxL : Nat) (ret : Option FieldType) (As : List Value) (r : Option Value) : Prop := Met l y (Cond.code y cc maxL ret :: ax_Tb) (ax_rm d 0 0) (zMP bs q1 v1 As) (zMQ r) 0 0 (fun q => bs ≤ q)
theorem zMP_b (bs q1 v1 : Nat) (As : List Value) : FrameBlind (zMP bs q1 v1 As) := fun a U g mk h => ⟨h.1, zY_c g mk a h.2⟩
theorem z_good {args : Array Value} {s : State} {y : MethodName} {cc : ByteArray} {maxL : Nat} {ret : Option FieldType} (hts : ∀ w ∈ ax_Tb, w.before args s = true) (wc : Cond.code y cc maxL ret ∈ lw_tbl) : ∀ w ∈ (Cond.code y cc maxL ret :: ax_Tb), ∀ (a' : Array Value) (U : State), s.WarmedH U.vm → w.before a' U = true := by
  refine pay_in hts (fun w hw => ?_)
  rcases List.mem_cons.mp hw with rfl | h
  · exact ⟨ax_Tb_in wc rfl, good_of_word rfl⟩
  · exact ⟨h, good_of_word (List.mem_filter.mp h).2⟩
/-- a JDK method's words -/
def zJw (y : MethodName) (cc : ByteArray) (maxL : Nat) (ret : Option FieldType) (own : String) (index n : Nat) : Prop := Cond.code y cc maxL ret ∈ lw_tbl ∧ Cond.initialized y.cls ∈ lw_tbl ∧ Cond.methodLink own index y ∈ lw_tbl ∧ (y.cls ≠ "java/lang/invoke/MethodHandle" ∧ y.cls ≠ "java/lang/invoke/VarHandle") ∧ (parseMethodDescriptor y.desc).map (fun d => d.parameters.length) = some n ∧ maxL ≤ 40
section ZS
variable {p : Program} {l : Launch} {e : Env} {R : Room} {s : State} {m : MethodId} {args : Array Value} {below : List Frame} {meth : Method} {c : Code} {H : Heap} {locs : List Loc} {cells slots : Nat} {Q : State → Prop} {cc bytes : ByteArray} {nL maxL index n d pc bs q1 v1 : Nat} {own : String} {y : MethodName} {ret : Option FieldType} {As rest : List Value} {ls : Array Slot} {r : Option Value}
theorem zJ_B (hts : ∀ w ∈ ax_Tb, w.before args s = true) (h : zJw y bytes maxL ret own index n) (hR : d + 1 ≤ R.frames) (hRl : 64 * (d + 1) ≤ R.locals) : CallB R s args own index y bytes maxL ret (Cond.code y bytes maxL ret :: ax_Tb) (ax_rm d 0 0) 0 0 n := by
  obtain ⟨w1, w2, w3, w4, w5, w6⟩ := h
  refine ⟨rfl, rfl, hR, ?_, z_good hts w1, List.mem_cons_self, hts _ (ax_Tb_in w1 rfl), hts _ (ax_Tb_in w2 rfl), w4, fun sig h => ?_, hts _ (ax_Tb_in w3 rfl)⟩
  · show 8 + (maxL + 11) + 64 * d ≤ R.locals
    omega
  · rw [h] at w5
    exact (Option.some.inj w5).symm
theorem z_after (hr : va_Run p l e R s m args below meth c H locs cells slots 0 0 (F0 m pc ls (As.reverse ++ rest)) rest (zMQ r As.toArray) (fun q => bs ≤ q)) (hL : ∀ q ∈ locs, bs ≤ q.base) (kk : ∀ locs', (∀ q ∈ locs', bs ≤ q.base) → W p l e R s m args below meth c H locs' cells slots Q (F0 m (pc + 3) ls (r.toList ++ rest))) : W p l e R s m args below meth c H locs cells slots Q (F0 m pc ls (As.reverse ++ rest)) := by
  refine ax_after hr (fun v st₀ t L h0 hq hL' => ?_)
  obtain ⟨ho, ht⟩ := hq
  cases ho
  have e1 : t.heap = H := ht.trans h0
  rw [e1]
  exact kk (locs ++ L) (fun q hq => (List.mem_append.mp hq).elim (hL q) (hL' q))
theorem zcS (hx : p.tables.exec = Jvm.exec) (hb : c.code = cc) (hml : c.maxLocals = nL) (hown : s.vm.findClass own = some m.cls) (hts : ∀ w ∈ ax_Tb, w.before args s = true) (hY : ∀ U : State, U.heap = H → s.WarmedH U.vm → zY bs q1 v1 U) (hM : zM l bs q1 v1 d y bytes maxL ret As r) (hw : zJw y bytes maxL ret own index n) (hs : Cond.static y ∈ lw_tbl) (hR : d + 1 ≤ R.frames) (hRl : 64 * (d + 1) ≤ R.locals) (hn : As.length = n) (hsize : ls.size = nL) (hcat : (rest.map fun v => v.category).sum ≤ 8) (hdg : decode cc pc = .ok (.invokestatic index, 3)) (hf : cells ≤ R.cells ∧ slots ≤ R.slots) (hL : ∀ q ∈ locs, bs ≤ q.base) (kk : ∀ locs', (∀ q ∈ locs', bs ≤ q.base) → W p l e R s m args below meth c H locs' cells slots Q (F0 m (pc + 3) ls (r.toList ++ rest))) : W p l e R s m args below meth c H locs cells slots Q (F0 m pc ls (As.reverse ++ rest)) := by
  refine z_after (va_runS (nL := nL) (Ts := ax_Tb) (own := own) ⟨hx, hb, hml, hown, hts⟩ hM ⟨zJ_B hts hw hR hRl, hts _ (ax_Tb_in hs rfl)⟩ ⟨zMP_b _ _ _ _, fun U hU hW => ⟨rfl, hY U hU hW⟩⟩ rfl hn hsize rfl ?_ hdg hf) hL kk
  have : (F0 m pc ls (As.reverse ++ rest)).monitorRoom = 0 := rfl
  omega
theorem zcV {b : Addr} {C : String} (hx : p.tables.exec = Jvm.exec) (hb : c.code = cc) (hml : c.maxLocals = nL) (hown : s.vm.findClass own = some m.cls) (hts : ∀ w ∈ ax_Tb, w.before args s = true) (hY : ∀ U : State, U.heap = H → s.WarmedH U.vm → zY bs q1 v1 U) (hM : zM l bs q1 v1 d y bytes maxL ret (.ref b :: As) r) (hw : zJw y bytes maxL ret own index n) (hi : Cond.instanceMethod y ∈ lw_tbl) (hse : Cond.selects C y y ∈ lw_tbl) (hcell : ∃ cellB : Cell, H[b]? = some cellB ∧ cellB.vm.isStatics = false ∧ s.vm.findClass C = some cellB.cls) (hR : d + 1 ≤ R.frames) (hRl : 64 * (d + 1) ≤ R.locals) (hn : As.length = n) (hsize : ls.size = nL) (hcat : (rest.map fun v => v.category).sum ≤ 8) (hdg : decode cc pc = .ok (.invokevirtual index, 3)) (hf : cells ≤ R.cells ∧ slots ≤ R.slots) (hL : ∀ q ∈ locs, bs ≤ q.base) (kk : ∀ locs', (∀ q ∈ locs', bs ≤ q.base) → W p l e R s m args below meth c H locs' cells slots Q (F0 m (pc + 3) ls (r.toList ++ rest))) : W p l e R s m args below meth c H locs cells slots Q (F0 m pc ls (As.reverse ++ .ref b :: rest)) := by
  have hr := va_runV (g := F0 m pc ls (As.reverse ++ .ref b :: rest)) (rest := rest) (l := l) (e := e) (below := below) (meth := meth) (H := H) (locs := locs) (cells := cells) (slots := slots) (nL := nL) (Ts := ax_Tb) (own := own) (C := C) ⟨hx, hb, hml, hown, hts⟩ hM ⟨zJ_B hts hw hR hRl, hts _ (ax_Tb_in hi rfl), hts _ (ax_Tb_in hse rfl)⟩ ⟨zMP_b _ _ _ _, hcell, fun U hU hW => ⟨rfl, hY U hU hW⟩⟩ rfl hn hsize rfl (by
    have : (F0 m pc ls (As.reverse ++ .ref b :: rest)).monitorRoom = 0 := rfl
    omega) hdg hf
  have e1 : As.reverse ++ .ref b :: rest = (Value.ref b :: As).reverse ++ rest := by rw [List.reverse_cons, List.append_assoc]; rfl
  rw [e1] at hr ⊢
  exact z_after hr hL kk
end ZS
def yS_coder : MethodName := ⟨"java/lang/String", "coder", "()B"⟩
def yS_length : MethodName := ⟨"java/lang/String", "length", "()I"⟩
def yS_isLatin1 : MethodName := ⟨"java/lang/String", "isLatin1", "()Z"⟩
def yS_charAt : MethodName := ⟨"java/lang/String", "charAt", "(I)C"⟩
def yS_check : MethodName := ⟨"java/lang/String", "checkIndex", "(II)V"⟩
def yL_charAt : MethodName := ⟨"java/lang/StringLatin1", "charAt", "([BI)C"⟩
def yP_check : MethodName := ⟨"jdk/internal/util/Preconditions", "checkIndex", "(IILjava/util/function/BiFunction;)I"⟩
theorem zp_all : plainFor yS_coder = true ∧ plainFor yS_length = true ∧ plainFor yS_isLatin1 = true ∧ plainFor yS_charAt = true ∧ plainFor yS_check = true ∧ plainFor yL_charAt = true ∧ plainFor yP_check = true := by decide +kernel
set_option maxRecDepth 100000 in
theorem zw_38 : Cond.fieldLink "java/lang/String" 38 "java/lang/String" "COMPACT_STRINGS" "Z" ∈ lw_tbl := List.mem_of_getElem? (i := 564) rfl
set_option maxRecDepth 100000 in
theorem zw_9 : Cond.fieldLink "java/lang/String" 9 "java/lang/String" "value" "[B" ∈ lw_tbl := List.mem_of_getElem? (i := 1880) rfl
set_option maxRecDepth 100000 in
theorem zw_15 : Cond.fieldLink "java/lang/String" 15 "java/lang/String" "coder" "B" ∈ lw_tbl := List.mem_of_getElem? (i := 1881) rfl
set_option maxRecDepth 100000 in
theorem zw_1053 : Cond.fieldLink "java/lang/String" 1053 "jdk/internal/util/Preconditions" "SIOOBE_FORMATTER" "Ljava/util/function/BiFunction;" ∈ lw_tbl := List.mem_of_getElem? (i := 580) rfl
set_option maxRecDepth 100000 in
theorem zj_coder : zJw yS_coder prog_21_method_152_code 1 (some .byte) "java/lang/String" 335 0 := ⟨List.mem_of_getElem? (i := 563) rfl, List.mem_of_getElem? (i := 107) rfl, List.mem_of_getElem? (i := 560) rfl, by decide +kernel, by decide +kernel, by decide⟩
set_option maxRecDepth 100000 in
theorem zj_length : zJw yS_length prog_21_method_54_code 1 (some .int) "ShakingCourt$Tokens" 73 0 := ⟨List.mem_of_getElem? (i := 559) rfl, List.mem_of_getElem? (i := 107) rfl, List.mem_of_getElem? (i := 556) rfl, by decide +kernel, by decide +kernel, by decide⟩
set_option maxRecDepth 100000 in
theorem zj_isLatin1 : zJw yS_isLatin1 prog_21_method_154_code 1 (some .boolean) "java/lang/String" 492 0 := ⟨List.mem_of_getElem? (i := 573) rfl, List.mem_of_getElem? (i := 107) rfl, List.mem_of_getElem? (i := 570) rfl, by decide +kernel, by decide +kernel, by decide⟩
set_option maxRecDepth 100000 in
theorem zj_charAt : zJw yS_charAt prog_21_method_56_code 2 (some .char) "ShakingCourt$Tokens" 77 1 := ⟨List.mem_of_getElem? (i := 569) rfl, List.mem_of_getElem? (i := 107) rfl, List.mem_of_getElem? (i := 566) rfl, by decide +kernel, by decide +kernel, by decide⟩
set_option maxRecDepth 100000 in
theorem zj_Lchar : zJw yL_charAt prog_22_method_2_code 2 (some .char) "java/lang/String" 495 2 := ⟨List.mem_of_getElem? (i := 576) rfl, List.mem_of_getElem? (i := 108) rfl, List.mem_of_getElem? (i := 574) rfl, by decide +kernel, by decide +kernel, by decide⟩
set_option maxRecDepth 100000 in
theorem zj_check : zJw yS_check prog_21_method_155_code 2 none "java/lang/StringLatin1" 9 2 := ⟨List.mem_of_getElem? (i := 579) rfl, List.mem_of_getElem? (i := 107) rfl, List.mem_of_getElem? (i := 577) rfl, by decide +kernel, by decide +kernel, by decide⟩
set_option maxRecDepth 100000 in
theorem zj_Pcheck : zJw yP_check prog_30_method_11_code 3 (some .int) "java/lang/String" 1059 3 := ⟨List.mem_of_getElem? (i := 584) rfl, List.mem_of_getElem? (i := 109) rfl, List.mem_of_getElem? (i := 582) rfl, by decide +kernel, by decide +kernel, by decide⟩
set_option maxRecDepth 100000 in
theorem zi_coder : Cond.instanceMethod yS_coder ∈ lw_tbl ∧ Cond.selects "java/lang/String" yS_coder yS_coder ∈ lw_tbl := ⟨List.mem_of_getElem? (i := 561) rfl, List.mem_of_getElem? (i := 562) rfl⟩
set_option maxRecDepth 100000 in
theorem zi_length : Cond.instanceMethod yS_length ∈ lw_tbl ∧ Cond.selects "java/lang/String" yS_length yS_length ∈ lw_tbl := ⟨List.mem_of_getElem? (i := 557) rfl, List.mem_of_getElem? (i := 558) rfl⟩
set_option maxRecDepth 100000 in
theorem zi_isLatin1 : Cond.instanceMethod yS_isLatin1 ∈ lw_tbl ∧ Cond.selects "java/lang/String" yS_isLatin1 yS_isLatin1 ∈ lw_tbl := ⟨List.mem_of_getElem? (i := 571) rfl, List.mem_of_getElem? (i := 572) rfl⟩
set_option maxRecDepth 100000 in
theorem zi_charAt : Cond.instanceMethod yS_charAt ∈ lw_tbl ∧ Cond.selects "java/lang/String" yS_charAt yS_charAt ∈ lw_tbl := ⟨List.mem_of_getElem? (i := 567) rfl, List.mem_of_getElem? (i := 568) rfl⟩
set_option maxRecDepth 100000 in
theorem zt_all : Cond.static yL_charAt ∈ lw_tbl ∧ Cond.static yS_check ∈ lw_tbl ∧ Cond.static yP_check ∈ lw_tbl := ⟨List.mem_of_getElem? (i := 575) rfl, List.mem_of_getElem? (i := 578) rfl, List.mem_of_getElem? (i := 583) rfl⟩
/-! contracts -/
theorem dz_coder_0 : decode prog_21_method_152_code 0 = .ok (.getstatic 38, 3) := by decide +kernel
theorem dz_coder_3 : decode prog_21_method_152_code 3 = .ok (.ifCond .eq 10, 3) := by decide +kernel
theorem dz_coder_6 : decode prog_21_method_152_code 6 = .ok (.aload_n 0, 1) := by decide +kernel
theorem dz_coder_7 : decode prog_21_method_152_code 7 = .ok (.getfield 15, 3) := by decide +kernel
theorem dz_coder_10 : decode prog_21_method_152_code 10 = .ok (.goto 4, 3) := by decide +kernel
theorem dz_coder_14 : decode prog_21_method_152_code 14 = .ok (.ireturn, 1) := by decide +kernel
theorem dz_length_0 : decode prog_21_method_54_code 0 = .ok (.aload_n 0, 1) := by decide +kernel
theorem dz_length_1 : decode prog_21_method_54_code 1 = .ok (.getfield 9, 3) := by decide +kernel
theorem dz_length_4 : decode prog_21_method_54_code 4 = .ok (.arraylength, 1) := by decide +kernel
theorem dz_length_5 : decode prog_21_method_54_code 5 = .ok (.aload_n 0, 1) := by decide +kernel
theorem dz_length_6 : decode prog_21_method_54_code 6 = .ok (.invokevirtual 335, 3) := by decide +kernel
theorem dz_length_9 : decode prog_21_method_54_code 9 = .ok (.ishr, 1) := by decide +kernel
theorem dz_length_10 : decode prog_21_method_54_code 10 = .ok (.ireturn, 1) := by decide +kernel
theorem dz_isLatin1_0 : decode prog_21_method_154_code 0 = .ok (.getstatic 38, 3) := by decide +kernel
theorem dz_isLatin1_3 : decode prog_21_method_154_code 3 = .ok (.ifCond .eq 14, 3) := by decide +kernel
theorem dz_isLatin1_6 : decode prog_21_method_154_code 6 = .ok (.aload_n 0, 1) := by decide +kernel
theorem dz_isLatin1_7 : decode prog_21_method_154_code 7 = .ok (.getfield 15, 3) := by decide +kernel
theorem dz_isLatin1_10 : decode prog_21_method_154_code 10 = .ok (.ifCond .ne 7, 3) := by decide +kernel
theorem dz_isLatin1_13 : decode prog_21_method_154_code 13 = .ok (.iconst 1, 1) := by decide +kernel
theorem dz_isLatin1_14 : decode prog_21_method_154_code 14 = .ok (.goto 4, 3) := by decide +kernel
theorem dz_isLatin1_18 : decode prog_21_method_154_code 18 = .ok (.ireturn, 1) := by decide +kernel
theorem dz_charAt_0 : decode prog_21_method_56_code 0 = .ok (.aload_n 0, 1) := by decide +kernel
theorem dz_charAt_1 : decode prog_21_method_56_code 1 = .ok (.invokevirtual 492, 3) := by decide +kernel
theorem dz_charAt_4 : decode prog_21_method_56_code 4 = .ok (.ifCond .eq 12, 3) := by decide +kernel
theorem dz_charAt_7 : decode prog_21_method_56_code 7 = .ok (.aload_n 0, 1) := by decide +kernel
theorem dz_charAt_8 : decode prog_21_method_56_code 8 = .ok (.getfield 9, 3) := by decide +kernel
theorem dz_charAt_11 : decode prog_21_method_56_code 11 = .ok (.iload_n 1, 1) := by decide +kernel
theorem dz_charAt_12 : decode prog_21_method_56_code 12 = .ok (.invokestatic 495, 3) := by decide +kernel
theorem dz_charAt_15 : decode prog_21_method_56_code 15 = .ok (.ireturn, 1) := by decide +kernel
theorem dz_Lchar_0 : decode prog_22_method_2_code 0 = .ok (.iload_n 1, 1) := by decide +kernel
theorem dz_Lchar_1 : decode prog_22_method_2_code 1 = .ok (.aload_n 0, 1) := by decide +kernel
theorem dz_Lchar_2 : decode prog_22_method_2_code 2 = .ok (.arraylength, 1) := by decide +kernel
theorem dz_Lchar_3 : decode prog_22_method_2_code 3 = .ok (.invokestatic 9, 3) := by decide +kernel
theorem dz_Lchar_6 : decode prog_22_method_2_code 6 = .ok (.aload_n 0, 1) := by decide +kernel
theorem dz_Lchar_7 : decode prog_22_method_2_code 7 = .ok (.iload_n 1, 1) := by decide +kernel
theorem dz_Lchar_8 : decode prog_22_method_2_code 8 = .ok (.baload, 1) := by decide +kernel
theorem dz_Lchar_9 : decode prog_22_method_2_code 9 = .ok (.sipush 255, 3) := by decide +kernel
theorem dz_Lchar_12 : decode prog_22_method_2_code 12 = .ok (.iand, 1) := by decide +kernel
theorem dz_Lchar_13 : decode prog_22_method_2_code 13 = .ok (.i2c, 1) := by decide +kernel
theorem dz_Lchar_14 : decode prog_22_method_2_code 14 = .ok (.ireturn, 1) := by decide +kernel
theorem dz_check_0 : decode prog_21_method_155_code 0 = .ok (.iload_n 0, 1) := by decide +kernel
theorem dz_check_1 : decode prog_21_method_155_code 1 = .ok (.iload_n 1, 1) := by decide +kernel
theorem dz_check_2 : decode prog_21_method_155_code 2 = .ok (.getstatic 1053, 3) := by decide +kernel
theorem dz_check_5 : decode prog_21_method_155_code 5 = .ok (.invokestatic 1059, 3) := by decide +kernel
theorem dz_check_8 : decode prog_21_method_155_code 8 = .ok (.pop, 1) := by decide +kernel
theorem dz_check_9 : decode prog_21_method_155_code 9 = .ok (.return_, 1) := by decide +kernel
theorem dz_Pcheck_0 : decode prog_30_method_11_code 0 = .ok (.iload_n 0, 1) := by decide +kernel
theorem dz_Pcheck_1 : decode prog_30_method_11_code 1 = .ok (.ifCond .lt 8, 3) := by decide +kernel
theorem dz_Pcheck_4 : decode prog_30_method_11_code 4 = .ok (.iload_n 0, 1) := by decide +kernel
theorem dz_Pcheck_5 : decode prog_30_method_11_code 5 = .ok (.iload_n 1, 1) := by decide +kernel
theorem dz_Pcheck_6 : decode prog_30_method_11_code 6 = .ok (.if_icmp .lt 10, 3) := by decide +kernel
theorem dz_Pcheck_16 : decode prog_30_method_11_code 16 = .ok (.iload_n 0, 1) := by decide +kernel
theorem dz_Pcheck_17 : decode prog_30_method_11_code 17 = .ok (.ireturn, 1) := by decide +kernel
theorem zc_coder {l : Launch} {bs q1 v1 : Nat} : zM l bs q1 v1 0 yS_coder prog_21_method_152_code 1 (some .byte) [.ref q1] (some (.int 0)) := by
  refine va_MetF (cc := prog_21_method_152_code) (maxL := 1) (ret := some .byte) zp_all.1 rfl ?_
  intro p e s m args below meth c s₁ B hml hv
  obtain ⟨rfl, hY⟩ := hv
  have hx := B.exec
  have hb := B.bytes
  have hr := B.returns
  have hlocks := B.notSynchronized
  have hts0 := atoms_spec (ws := Cond.code yS_coder prog_21_method_152_code 1 (some .byte) :: ax_Tb) B.pre
  have hts : ∀ w ∈ ax_Tb, w.before (List.toArray [.ref q1]) s = true := fun w hw => hts0 w (List.mem_cons_of_mem _ hw)
  have hown : s.vm.findClass "java/lang/String" = some m.cls := findClass_of_methodNamed B.named
  have hS : va_S (fun q => bs ≤ q) s.heap s.heap [] := va_S.rf
  have hYU : ∀ U : State, U.heap = s.heap → s.WarmedH U.vm → zY bs q1 v1 U := fun U hU hW => zY_w hY hW (fun q _ => by rw [hU])
  obtain ⟨⟨hV, -⟩, hCS, fv, hFm, hfv⟩ := id hY
  obtain ⟨hO, hco, hva, hby⟩ := hV 0 (by decide)
  have hl := lv_entry ([.ref q1]) (n := 1) (Nat.le_of_ble_eq_true rfl)
  rw [lg_entry_eq]
  generalize (lg_sl ([.ref q1]) ++ List.replicate (1 - (lg_sl ([.ref q1])).length) Slot.unset).toArray = ls at hl ⊢
  have hl : lv_has ls 1 [(0, .ref q1)] := hl
  refine va_gets hx hb hCS hS hown (hts _ (ax_Tb_in zw_38 rfl)) (fun _ h => h) dz_coder_0 ?_
  refine lv_if_eq hx hb dz_coder_3 (tgt := 13) (by decide) (fun z => absurd z (by decide)) (fun _ => ?_)
  refine lv_aload_n hx hb dz_coder_6 rfl (lv_at hl 0 rfl) ?_
  refine vk_getf hx hb hco hS hown (hts _ (ax_Tb_in zw_15 rfl)) (fun _ h => h) dz_coder_7 ?_
  refine lv_goto hx hb dz_coder_10 (tgt := 14) (by decide) ?_
  exact W.zret (ty := .byte) hx hb hr (by decide) (fun t ht _ => ⟨rfl, ht⟩) (fun q hq => by cases hq) dz_coder_14
theorem zc_isLatin1 {l : Launch} {bs q1 v1 : Nat} : zM l bs q1 v1 0 yS_isLatin1 prog_21_method_154_code 1 (some .boolean) [.ref q1] (some (.int 1)) := by
  refine va_MetF (cc := prog_21_method_154_code) (maxL := 1) (ret := some .boolean) zp_all.2.2.1 rfl ?_
  intro p e s m args below meth c s₁ B hml hv
  obtain ⟨rfl, hY⟩ := hv
  have hx := B.exec
  have hb := B.bytes
  have hr := B.returns
  have hlocks := B.notSynchronized
  have hts0 := atoms_spec (ws := Cond.code yS_isLatin1 prog_21_method_154_code 1 (some .boolean) :: ax_Tb) B.pre
  have hts : ∀ w ∈ ax_Tb, w.before (List.toArray [.ref q1]) s = true := fun w hw => hts0 w (List.mem_cons_of_mem _ hw)
  have hown : s.vm.findClass "java/lang/String" = some m.cls := findClass_of_methodNamed B.named
  have hS : va_S (fun q => bs ≤ q) s.heap s.heap [] := va_S.rf
  have hYU : ∀ U : State, U.heap = s.heap → s.WarmedH U.vm → zY bs q1 v1 U := fun U hU hW => zY_w hY hW (fun q _ => by rw [hU])
  obtain ⟨⟨hV, -⟩, hCS, fv, hFm, hfv⟩ := id hY
  obtain ⟨hO, hco, hva, hby⟩ := hV 0 (by decide)
  have hl := lv_entry ([.ref q1]) (n := 1) (Nat.le_of_ble_eq_true rfl)
  rw [lg_entry_eq]
  generalize (lg_sl ([.ref q1]) ++ List.replicate (1 - (lg_sl ([.ref q1])).length) Slot.unset).toArray = ls at hl ⊢
  have hl : lv_has ls 1 [(0, .ref q1)] := hl
  refine va_gets hx hb hCS hS hown (hts _ (ax_Tb_in zw_38 rfl)) (fun _ h => h) dz_isLatin1_0 ?_
  refine lv_if_eq hx hb dz_isLatin1_3 (tgt := 17) (by decide) (fun z => absurd z (by decide)) (fun _ => ?_)
  refine lv_aload_n hx hb dz_isLatin1_6 rfl (lv_at hl 0 rfl) ?_
  refine vk_getf hx hb hco hS hown (hts _ (ax_Tb_in zw_15 rfl)) (fun _ h => h) dz_isLatin1_7 ?_
  refine lv_if_ne hx hb dz_isLatin1_10 (tgt := 17) (by decide) (fun z => absurd rfl z) (fun _ => ?_)
  refine lv_iconst hx hb dz_isLatin1_13 (v := 1) (by decide) ?_
  refine lv_goto hx hb dz_isLatin1_14 (tgt := 18) (by decide) ?_
  exact W.zret (ty := .boolean) hx hb hr (by decide) (fun t ht _ => ⟨rfl, ht⟩) (fun q hq => by cases hq) dz_isLatin1_18
theorem zc_length {l : Launch} {bs q1 v1 : Nat} : zM l bs q1 v1 1 yS_length prog_21_method_54_code 1 (some .int) [.ref q1] (some (.int (nI 132))) := by
  refine va_MetF (cc := prog_21_method_54_code) (maxL := 1) (ret := some .int) zp_all.2.1 rfl ?_
  intro p e s m args below meth c s₁ B hml hv
  obtain ⟨rfl, hY⟩ := hv
  have hx := B.exec
  have hb := B.bytes
  have hr := B.returns
  have hlocks := B.notSynchronized
  have hts0 := atoms_spec (ws := Cond.code yS_length prog_21_method_54_code 1 (some .int) :: ax_Tb) B.pre
  have hts : ∀ w ∈ ax_Tb, w.before (List.toArray [.ref q1]) s = true := fun w hw => hts0 w (List.mem_cons_of_mem _ hw)
  have hown : s.vm.findClass "java/lang/String" = some m.cls := findClass_of_methodNamed B.named
  have hS : va_S (fun q => bs ≤ q) s.heap s.heap [] := va_S.rf
  have hYU : ∀ U : State, U.heap = s.heap → s.WarmedH U.vm → zY bs q1 v1 U := fun U hU hW => zY_w hY hW (fun q _ => by rw [hU])
  obtain ⟨⟨hV, -⟩, hCS, fv, hFm, hfv⟩ := id hY
  obtain ⟨hO, hco, hva, hby⟩ := hV 0 (by decide)
  have hl := lv_entry ([.ref q1]) (n := 1) (Nat.le_of_ble_eq_true rfl)
  rw [lg_entry_eq]
  generalize (lg_sl ([.ref q1]) ++ List.replicate (1 - (lg_sl ([.ref q1])).length) Slot.unset).toArray = ls at hl ⊢
  have hl : lv_has ls 1 [(0, .ref q1)] := hl
  refine lv_aload_n hx hb dz_length_0 rfl (lv_at hl 0 rfl) ?_
  refine vk_getf hx hb hva hS hown (hts _ (ax_Tb_in zw_9 rfl)) (fun _ h => h) dz_length_1 ?_
  refine va_tlen hx hb hby hS (v := nI 132) rfl dz_length_4 ?_
  refine lv_aload_n hx hb dz_length_5 rfl (lv_at hl 0 rfl) ?_
  refine zcV (As := []) (rest := [.int (nI 132)]) (nL := 1) hx hb hml hown hts hYU zc_coder zj_coder zi_coder.1 zi_coder.2 (vk_recv hY.1 (i := 0) (by decide) hS) (Nat.le_refl _) (Nat.le_refl _) rfl hl.1 (by decide) dz_length_6 ⟨Nat.le_refl _, Nat.le_refl _⟩ (fun q hq => by cases hq) (fun locs' hL => ?_)
  refine lv_ishr hx hb dz_length_9 ?_
  refine lv_topi (fun x ex => ?_)
  have ex : x = nI 132 := by rw [ex]; decide
  subst ex
  exact W.iret hx hb hr (fun t ht _ => ⟨rfl, ht⟩) hL dz_length_10
theorem zc_Pcheck {l : Launch} {bs q1 v1 : Nat} {k : Nat} {v : Value} (hk : k < 132) (hv : v = .null ∨ ∃ a, v = .ref a) : zM l bs q1 v1 0 yP_check prog_30_method_11_code 3 (some .int) [.int (nI k), .int (nI 132), v] (some (.int (nI k))) := by
  refine va_MetF (cc := prog_30_method_11_code) (maxL := 3) (ret := some .int) zp_all.2.2.2.2.2.2 rfl ?_
  intro p e s m args below meth c s₁ B hml hv
  obtain ⟨rfl, hY⟩ := hv
  have hx := B.exec
  have hb := B.bytes
  have hr := B.returns
  have hlocks := B.notSynchronized
  have hts0 := atoms_spec (ws := Cond.code yP_check prog_30_method_11_code 3 (some .int) :: ax_Tb) B.pre
  have hts : ∀ w ∈ ax_Tb, w.before (List.toArray [.int (nI k), .int (nI 132), v]) s = true := fun w hw => hts0 w (List.mem_cons_of_mem _ hw)
  have hown : s.vm.findClass "jdk/internal/util/Preconditions" = some m.cls := findClass_of_methodNamed B.named
  have hS : va_S (fun q => bs ≤ q) s.heap s.heap [] := va_S.rf
  have hYU : ∀ U : State, U.heap = s.heap → s.WarmedH U.vm → zY bs q1 v1 U := fun U hU hW => zY_w hY hW (fun q _ => by rw [hU])
  obtain ⟨⟨hV, -⟩, hCS, fv, hFm, hfv⟩ := id hY
  obtain ⟨hO, hco, hva, hby⟩ := hV 0 (by decide)
  have hl := lv_entry ([.int (nI k), .int (nI 132), v]) (n := 3) (by rcases hv with rfl | ⟨a, rfl⟩ <;> exact Nat.le_of_ble_eq_true rfl)
  rw [lg_entry_eq]
  generalize (lg_sl ([.int (nI k), .int (nI 132), v]) ++ List.replicate (3 - (lg_sl ([.int (nI k), .int (nI 132), v])).length) Slot.unset).toArray = ls at hl ⊢
  have hl : lv_has ls 3 [(0, .int (nI k)), (1, .int (nI 132))] := by
    rcases hv with rfl | ⟨a, rfl⟩
    · exact lv_sub hl [0, 1] rfl
    · exact lv_sub hl [0, 1] rfl
  refine lv_iload_n hx hb dz_Pcheck_0 rfl (lv_at hl 0 rfl) ?_
  refine lv_if_lt hx hb dz_Pcheck_1 (tgt := 9) (by decide) (fun z => absurd z (nI_pos (by omega))) (fun _ => ?_)
  refine lv_iload_n hx hb dz_Pcheck_4 rfl (lv_at hl 0 rfl) ?_
  refine lv_iload_n hx hb dz_Pcheck_5 rfl (lv_at hl 1 rfl) ?_
  refine lv_icmp_lt hx hb dz_Pcheck_6 (tgt := 16) (by decide) (fun _ => ?_) (fun z => absurd (nI_lt hk (by decide)) z)
  refine lv_iload_n hx hb dz_Pcheck_16 rfl (lv_at hl 0 rfl) ?_
  exact W.iret hx hb hr (fun t ht _ => ⟨rfl, ht⟩) (fun q hq => by cases hq) dz_Pcheck_17
theorem zc_check {l : Launch} {bs q1 v1 : Nat} {k : Nat} (hk : k < 132) : zM l bs q1 v1 1 yS_check prog_21_method_155_code 2 none [.int (nI k), .int (nI 132)] none := by
  refine va_MetF (cc := prog_21_method_155_code) (maxL := 2) (ret := none) zp_all.2.2.2.2.1 rfl ?_
  intro p e s m args below meth c s₁ B hml hv
  obtain ⟨rfl, hY⟩ := hv
  have hx := B.exec
  have hb := B.bytes
  have hr := B.returns
  have hlocks := B.notSynchronized
  have hts0 := atoms_spec (ws := Cond.code yS_check prog_21_method_155_code 2 none :: ax_Tb) B.pre
  have hts : ∀ w ∈ ax_Tb, w.before (List.toArray [.int (nI k), .int (nI 132)]) s = true := fun w hw => hts0 w (List.mem_cons_of_mem _ hw)
  have hown : s.vm.findClass "java/lang/String" = some m.cls := findClass_of_methodNamed B.named
  have hS : va_S (fun q => bs ≤ q) s.heap s.heap [] := va_S.rf
  have hYU : ∀ U : State, U.heap = s.heap → s.WarmedH U.vm → zY bs q1 v1 U := fun U hU hW => zY_w hY hW (fun q _ => by rw [hU])
  obtain ⟨⟨hV, -⟩, hCS, fv, hFm, hfv⟩ := id hY
  obtain ⟨hO, hco, hva, hby⟩ := hV 0 (by decide)
  have hl := lv_entry ([.int (nI k), .int (nI 132)]) (n := 2) (Nat.le_of_ble_eq_true rfl)
  rw [lg_entry_eq]
  generalize (lg_sl ([.int (nI k), .int (nI 132)]) ++ List.replicate (2 - (lg_sl ([.int (nI k), .int (nI 132)])).length) Slot.unset).toArray = ls at hl ⊢
  have hl : lv_has ls 2 [(0, .int (nI k)), (1, .int (nI 132))] := hl
  refine lv_iload_n hx hb dz_check_0 rfl (lv_at hl 0 rfl) ?_
  refine lv_iload_n hx hb dz_check_1 rfl (lv_at hl 1 rfl) ?_
  refine va_gets hx hb hFm hS hown (hts _ (ax_Tb_in zw_1053 rfl)) (fun _ h => h) dz_check_2 ?_
  refine zcS (As := [.int (nI k), .int (nI 132), fv]) (rest := []) (nL := 2) hx hb hml hown hts hYU (zc_Pcheck hk hfv) zj_Pcheck zt_all.2.2 (Nat.le_refl _) (Nat.le_refl _) rfl hl.1 (by decide) dz_check_5 ⟨Nat.le_refl _, Nat.le_refl _⟩ (fun q hq => by cases hq) (fun locs' hL => ?_)
  refine lv_pop hx hb dz_check_8 rfl ?_
  exact W.vret hx hb hr (fun t ht _ => ⟨rfl, ht⟩) hL dz_check_9
theorem zyb_at {k : Nat} (hk : k < 132) : (zyb.getD k 0).toInt8.toInt32 = zyb.getD k 0 ∧ (((zyb.getD k 0 &&& 255).toUInt32) % 65536).toInt32 = nI (zst.getD k 0) ∧ narrow .char (.int (nI (zst.getD k 0))) = .int (nI (zst.getD k 0)) := by
  have h : ∀ k : Fin 132, (zyb.getD k.val 0).toInt8.toInt32 = zyb.getD k.val 0 ∧ (((zyb.getD k.val 0 &&& 255).toUInt32) % 65536).toInt32 = nI (zst.getD k.val 0) ∧ narrow .char (.int (nI (zst.getD k.val 0))) = .int (nI (zst.getD k.val 0)) := by decide +kernel
  exact h ⟨k, hk⟩
theorem zc_Lchar {l : Launch} {bs q1 v1 : Nat} {k : Nat} (hk : k < 132) : zM l bs q1 v1 2 yL_charAt prog_22_method_2_code 2 (some .char) [.ref v1, .int (nI k)] (some (.int (nI (zst.getD k 0)))) := by
  refine va_MetF (cc := prog_22_method_2_code) (maxL := 2) (ret := some .char) zp_all.2.2.2.2.2.1 rfl ?_
  intro p e s m args below meth c s₁ B hml hv
  obtain ⟨rfl, hY⟩ := hv
  have hx := B.exec
  have hb := B.bytes
  have hr := B.returns
  have hlocks := B.notSynchronized
  have hts0 := atoms_spec (ws := Cond.code yL_charAt prog_22_method_2_code 2 (some .char) :: ax_Tb) B.pre
  have hts : ∀ w ∈ ax_Tb, w.before (List.toArray [.ref v1, .int (nI k)]) s = true := fun w hw => hts0 w (List.mem_cons_of_mem _ hw)
  have hown : s.vm.findClass "java/lang/StringLatin1" = some m.cls := findClass_of_methodNamed B.named
  have hS : va_S (fun q => bs ≤ q) s.heap s.heap [] := va_S.rf
  have hYU : ∀ U : State, U.heap = s.heap → s.WarmedH U.vm → zY bs q1 v1 U := fun U hU hW => zY_w hY hW (fun q _ => by rw [hU])
  obtain ⟨⟨hV, -⟩, hCS, fv, hFm, hfv⟩ := id hY
  obtain ⟨hO, hco, hva, hby⟩ := hV 0 (by decide)
  have hl := lv_entry ([.ref v1, .int (nI k)]) (n := 2) (Nat.le_of_ble_eq_true rfl)
  rw [lg_entry_eq]
  generalize (lg_sl ([.ref v1, .int (nI k)]) ++ List.replicate (2 - (lg_sl ([.ref v1, .int (nI k)])).length) Slot.unset).toArray = ls at hl ⊢
  have hl : lv_has ls 2 [(0, .ref v1), (1, .int (nI k))] := hl
  obtain ⟨z1, z2, z3⟩ := zyb_at hk
  refine lv_iload_n hx hb dz_Lchar_0 rfl (lv_at hl 1 rfl) ?_
  refine lv_aload_n hx hb dz_Lchar_1 rfl (lv_at hl 0 rfl) ?_
  refine va_tlen hx hb hby hS (v := nI 132) rfl dz_Lchar_2 ?_
  refine zcS (As := [.int (nI k), .int (nI 132)]) (rest := []) (nL := 2) hx hb hml hown hts hYU (zc_check hk) zj_check zt_all.2.1 (Nat.le_refl _) (Nat.le_refl _) rfl hl.1 (by decide) dz_Lchar_3 ⟨Nat.le_refl _, Nat.le_refl _⟩ (fun q hq => by cases hq) (fun locs' hL => ?_)
  have hS' : va_S (fun q => bs ≤ q) s.heap s.heap locs' := ⟨Nat.le_refl _, fun q _ _ => rfl, hL⟩
  refine lv_aload_n hx hb dz_Lchar_6 rfl (lv_at hl 0 rfl) ?_
  refine lv_iload_n hx hb dz_Lchar_7 rfl (lv_at hl 1 rfl) ?_
  refine va_tb hx hb hby hS' (i := nI k) (nI_in hk (by decide)) (v := .int (zyb.getD k 0)) (by rw [nI_clamp (by omega)]; rfl) dz_Lchar_8 ?_
  refine lv_sipush hx hb dz_Lchar_9 (v := 255) (by decide) ?_
  refine lv_iand hx hb dz_Lchar_12 ?_
  refine lv_i2c hx hb dz_Lchar_13 z2 ?_
  exact W.zret (ty := .char) hx hb hr z3 (fun t ht _ => ⟨rfl, ht⟩) hL dz_Lchar_14
theorem zc_charAt {l : Launch} {bs q1 v1 : Nat} {k : Nat} (hk : k < 132) : zM l bs q1 v1 3 yS_charAt prog_21_method_56_code 2 (some .char) [.ref q1, .int (nI k)] (some (.int (nI (zst.getD k 0)))) := by
  refine va_MetF (cc := prog_21_method_56_code) (maxL := 2) (ret := some .char) zp_all.2.2.2.1 rfl ?_
  intro p e s m args below meth c s₁ B hml hv
  obtain ⟨rfl, hY⟩ := hv
  have hx := B.exec
  have hb := B.bytes
  have hr := B.returns
  have hlocks := B.notSynchronized
  have hts0 := atoms_spec (ws := Cond.code yS_charAt prog_21_method_56_code 2 (some .char) :: ax_Tb) B.pre
  have hts : ∀ w ∈ ax_Tb, w.before (List.toArray [.ref q1, .int (nI k)]) s = true := fun w hw => hts0 w (List.mem_cons_of_mem _ hw)
  have hown : s.vm.findClass "java/lang/String" = some m.cls := findClass_of_methodNamed B.named
  have hS : va_S (fun q => bs ≤ q) s.heap s.heap [] := va_S.rf
  have hYU : ∀ U : State, U.heap = s.heap → s.WarmedH U.vm → zY bs q1 v1 U := fun U hU hW => zY_w hY hW (fun q _ => by rw [hU])
  obtain ⟨⟨hV, -⟩, hCS, fv, hFm, hfv⟩ := id hY
  obtain ⟨hO, hco, hva, hby⟩ := hV 0 (by decide)
  have hl := lv_entry ([.ref q1, .int (nI k)]) (n := 2) (Nat.le_of_ble_eq_true rfl)
  rw [lg_entry_eq]
  generalize (lg_sl ([.ref q1, .int (nI k)]) ++ List.replicate (2 - (lg_sl ([.ref q1, .int (nI k)])).length) Slot.unset).toArray = ls at hl ⊢
  have hl : lv_has ls 2 [(0, .ref q1), (1, .int (nI k))] := hl
  obtain ⟨z1, z2, z3⟩ := zyb_at hk
  refine lv_aload_n hx hb dz_charAt_0 rfl (lv_at hl 0 rfl) ?_
  refine zcV (As := []) (rest := []) (nL := 2) hx hb hml hown hts hYU zc_isLatin1 zj_isLatin1 zi_isLatin1.1 zi_isLatin1.2 (vk_recv hY.1 (i := 0) (by decide) hS) (Nat.le_of_ble_eq_true rfl) (Nat.le_of_ble_eq_true rfl) rfl hl.1 (by decide) dz_charAt_1 ⟨Nat.le_refl _, Nat.le_refl _⟩ (fun q hq => by cases hq) (fun locs' hL => ?_)
  have hS' : va_S (fun q => bs ≤ q) s.heap s.heap locs' := ⟨Nat.le_refl _, fun q _ _ => rfl, hL⟩
  refine lv_if_eq hx hb dz_charAt_4 (tgt := 16) (by decide) (fun z => absurd z (by decide)) (fun _ => ?_)
  refine lv_aload_n hx hb dz_charAt_7 rfl (lv_at hl 0 rfl) ?_
  refine vk_getf hx hb hva hS' hown (hts _ (ax_Tb_in zw_9 rfl)) (fun _ h => h) dz_charAt_8 ?_
  refine lv_iload_n hx hb dz_charAt_11 rfl (lv_at hl 1 rfl) ?_
  refine zcS (As := [.ref v1, .int (nI k)]) (rest := []) (nL := 2) hx hb hml hown hts hYU (zc_Lchar hk) zj_Lchar zt_all.1 (Nat.le_refl _) (Nat.le_refl _) rfl hl.1 (by decide) dz_charAt_12 ⟨Nat.le_refl _, Nat.le_refl _⟩ hL (fun locs2 hL2 => ?_)
  exact W.zret (ty := .char) hx hb hr z3 (fun t ht _ => ⟨rfl, ht⟩) hL2 dz_charAt_15
