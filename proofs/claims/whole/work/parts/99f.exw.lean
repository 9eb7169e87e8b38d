/-! the words of the making of a NoSuchElementException -/
def zUs : String := "UNASSIGNED_STACK"
def zSs : String := "SUPPRESSED_SENTINEL"
def zLs : List Cond := [Cond.laysStatic Bundle.tN zUs Bundle.steD, Cond.laysStatic Bundle.tN zSs Bundle.listD]
def zWs : List Cond := [Cond.declares (Bundle.initS "java/lang/RuntimeException"), Cond.declares (Bundle.initS "java/lang/Exception"), Cond.declares (Bundle.initS Bundle.tN), Cond.castable "java/util/NoSuchElementException" "java/util/NoSuchElementException"]
def zNse : String := "java/util/NoSuchElementException"
set_option maxRecDepth 100000 in
theorem zA1 : ∀ w ∈ Bundle.throwableAtoms, w ∈ ax_Tb ∨ w ∈ zLs := List.forall_mem_cons.mpr ⟨Or.inl (ax_Tb_in (List.mem_of_getElem? (i := 111) rfl) rfl), List.forall_mem_cons.mpr ⟨Or.inl (ax_Tb_in (List.mem_of_getElem? (i := 1259) rfl) rfl), List.forall_mem_cons.mpr ⟨Or.inl (ax_Tb_in (List.mem_of_getElem? (i := 1268) rfl) rfl), List.forall_mem_cons.mpr ⟨Or.inl (ax_Tb_in (List.mem_of_getElem? (i := 1270) rfl) rfl), List.forall_mem_cons.mpr ⟨Or.inl (ax_Tb_in (List.mem_of_getElem? (i := 1273) rfl) rfl), List.forall_mem_cons.mpr ⟨Or.inl (ax_Tb_in (List.mem_of_getElem? (i := 1275) rfl) rfl), List.forall_mem_cons.mpr ⟨Or.inl (ax_Tb_in (List.mem_of_getElem? (i := 1260) rfl) rfl), List.forall_mem_cons.mpr ⟨Or.inl (ax_Tb_in (List.mem_of_getElem? (i := 1261) rfl) rfl), List.forall_mem_cons.mpr ⟨Or.inl (ax_Tb_in (List.mem_of_getElem? (i := 122) rfl) rfl), List.forall_mem_cons.mpr ⟨Or.inl (ax_Tb_in (List.mem_of_getElem? (i := 123) rfl) rfl), List.forall_mem_cons.mpr ⟨Or.inl (ax_Tb_in (List.mem_of_getElem? (i := 1262) rfl) rfl), List.forall_mem_cons.mpr ⟨Or.inl (ax_Tb_in (List.mem_of_getElem? (i := 1267) rfl) rfl), List.forall_mem_cons.mpr ⟨Or.inl (ax_Tb_in (List.mem_of_getElem? (i := 1271) rfl) rfl), List.forall_mem_cons.mpr ⟨Or.inl (ax_Tb_in (List.mem_of_getElem? (i := 1291) rfl) rfl), List.forall_mem_cons.mpr ⟨Or.inl (ax_Tb_in (List.mem_of_getElem? (i := 1249) rfl) rfl), List.forall_mem_cons.mpr ⟨Or.inl (ax_Tb_in (List.mem_of_getElem? (i := 1292) rfl) rfl), List.forall_mem_cons.mpr ⟨Or.inl (ax_Tb_in (List.mem_of_getElem? (i := 1251) rfl) rfl), List.forall_mem_cons.mpr ⟨Or.inl (ax_Tb_in (List.mem_of_getElem? (i := 1293) rfl) rfl), List.forall_mem_cons.mpr ⟨Or.inl (ax_Tb_in (List.mem_of_getElem? (i := 1253) rfl) rfl), List.forall_mem_cons.mpr ⟨Or.inl (ax_Tb_in (List.mem_of_getElem? (i := 1263) rfl) rfl), List.forall_mem_cons.mpr ⟨Or.inr (List.mem_of_getElem? (i := 0) rfl), List.forall_mem_cons.mpr ⟨Or.inl (ax_Tb_in (List.mem_of_getElem? (i := 1265) rfl) rfl), List.forall_mem_cons.mpr ⟨Or.inr (List.mem_of_getElem? (i := 1) rfl), List.forall_mem_cons.mpr ⟨Or.inl (ax_Tb_in (List.mem_of_getElem? (i := 1255) rfl) rfl), (fun _ h => by cases h)⟩⟩⟩⟩⟩⟩⟩⟩⟩⟩⟩⟩⟩⟩⟩⟩⟩⟩⟩⟩⟩⟩⟩⟩
set_option maxRecDepth 100000 in
theorem zA2 : ∀ w ∈ Bundle.throwableSAtoms, w ∈ ax_Tb ∨ w ∈ zLs := List.forall_mem_cons.mpr ⟨Or.inl (ax_Tb_in (List.mem_of_getElem? (i := 1287) rfl) rfl), List.forall_mem_cons.mpr ⟨Or.inl (ax_Tb_in (List.mem_of_getElem? (i := 1288) rfl) rfl), List.forall_mem_cons.mpr ⟨Or.inl (ax_Tb_in (List.mem_of_getElem? (i := 1290) rfl) rfl), List.forall_mem_cons.mpr ⟨Or.inl (ax_Tb_in (List.mem_of_getElem? (i := 1255) rfl) rfl), (fun _ h => by cases h)⟩⟩⟩⟩
set_option maxRecDepth 100000 in
theorem zA3 : ∀ w ∈ Bundle.chainSAtomsX zNse 13 prog_29_method_4_code ["java/lang/RuntimeException", "java/lang/Exception"], w ∈ ax_Tb ∨ w ∈ zWs := List.forall_mem_cons.mpr ⟨Or.inl (ax_Tb_in (List.mem_of_getElem? (i := 1278) rfl) rfl), List.forall_mem_cons.mpr ⟨Or.inl (ax_Tb_in (List.mem_of_getElem? (i := 1279) rfl) rfl), List.forall_mem_cons.mpr ⟨Or.inl (ax_Tb_in (List.mem_of_getElem? (i := 1280) rfl) rfl), List.forall_mem_cons.mpr ⟨Or.inl (ax_Tb_in (List.mem_of_getElem? (i := 1281) rfl) rfl), List.forall_mem_cons.mpr ⟨Or.inr (List.mem_of_getElem? (i := 0) rfl), List.forall_mem_cons.mpr ⟨Or.inl (ax_Tb_in (List.mem_of_getElem? (i := 1281) rfl) rfl), List.forall_mem_cons.mpr ⟨Or.inl (ax_Tb_in (List.mem_of_getElem? (i := 1282) rfl) rfl), List.forall_mem_cons.mpr ⟨Or.inl (ax_Tb_in (List.mem_of_getElem? (i := 1283) rfl) rfl), List.forall_mem_cons.mpr ⟨Or.inl (ax_Tb_in (List.mem_of_getElem? (i := 1284) rfl) rfl), List.forall_mem_cons.mpr ⟨Or.inr (List.mem_of_getElem? (i := 1) rfl), List.forall_mem_cons.mpr ⟨Or.inl (ax_Tb_in (List.mem_of_getElem? (i := 1284) rfl) rfl), List.forall_mem_cons.mpr ⟨Or.inl (ax_Tb_in (List.mem_of_getElem? (i := 1285) rfl) rfl), List.forall_mem_cons.mpr ⟨Or.inl (ax_Tb_in (List.mem_of_getElem? (i := 1286) rfl) rfl), List.forall_mem_cons.mpr ⟨Or.inl (ax_Tb_in (List.mem_of_getElem? (i := 1287) rfl) rfl), List.forall_mem_cons.mpr ⟨Or.inr (List.mem_of_getElem? (i := 2) rfl), (fun _ h => by cases h)⟩⟩⟩⟩⟩⟩⟩⟩⟩⟩⟩⟩⟩⟩⟩
set_option maxRecDepth 100000 in
theorem zA_link : Cond.methodLink "ShakingCourt" 255 (Bundle.initS zNse) ∈ ax_Tb := ax_Tb_in (List.mem_of_getElem? (i := 1277) rfl) rfl
set_option maxRecDepth 100000 in
theorem zA_inst : Cond.instantiable zNse 6 ∈ ax_Tb := ax_Tb_in (List.mem_of_getElem? (i := 1238) rfl) rfl
set_option maxRecDepth 100000 in
theorem zA_fill0 : Cond.selects zNse Bundle.tFill0 Bundle.tFill0 ∈ ax_Tb := ax_Tb_in (List.mem_of_getElem? (i := 1246) rfl) rfl
set_option maxRecDepth 100000 in
theorem zA_fill : Cond.selects zNse Bundle.tFill Bundle.tFill ∈ ax_Tb := ax_Tb_in (List.mem_of_getElem? (i := 1247) rfl) rfl
set_option maxRecDepth 100000 in
theorem zA_cause : Cond.lays zNse Bundle.tN "cause" "Ljava/lang/Throwable;" ∈ ax_Tb := ax_Tb_in (List.mem_of_getElem? (i := 1248) rfl) rfl
set_option maxRecDepth 100000 in
theorem zA_stack : Cond.lays zNse Bundle.tN "stackTrace" Bundle.steD ∈ ax_Tb := ax_Tb_in (List.mem_of_getElem? (i := 1250) rfl) rfl
set_option maxRecDepth 100000 in
theorem zA_supp : Cond.lays zNse Bundle.tN "suppressedExceptions" Bundle.listD ∈ ax_Tb := ax_Tb_in (List.mem_of_getElem? (i := 1252) rfl) rfl
set_option maxRecDepth 100000 in
theorem zA_msg : Cond.lays zNse Bundle.tN "detailMessage" "Ljava/lang/String;" ∈ ax_Tb := ax_Tb_in (List.mem_of_getElem? (i := 1254) rfl) rfl
set_option maxRecDepth 100000 in
theorem zA_b198 : Cond.fieldLink Bundle.tN 198 Bundle.tN "backtrace" "Ljava/lang/Object;" ∈ ax_Tb := ax_Tb_in (List.mem_of_getElem? (i := 1258) rfl) rfl
set_option maxRecDepth 100000 in
theorem zA_tback : Cond.lays Bundle.tN Bundle.tN "backtrace" "Ljava/lang/Object;" ∈ ax_Tb := ax_Tb_in (List.mem_of_getElem? (i := 1257) rfl) rfl
set_option maxRecDepth 100000 in
theorem zA_back : Cond.lays zNse Bundle.tN "backtrace" "Ljava/lang/Object;" ∈ ax_Tb := ax_Tb_in (List.mem_of_getElem? (i := 1256) rfl) rfl
set_option maxRecDepth 100000 in
theorem zA_class : Cond.classLink "ShakingCourt" 251 zNse ∈ ax_Tb := ax_Tb_in (List.mem_of_getElem? (i := 1237) rfl) rfl
set_option maxRecDepth 100000 in
theorem zA_init : Cond.initialized zNse ∈ ax_Tb := ax_Tb_in (List.mem_of_getElem? (i := 114) rfl) rfl
set_option maxRecDepth 100000 in
theorem zA_catch : Cond.classLink "ShakingCourtLaw" 13 zNse ∈ ax_Tb := ax_Tb_in (List.mem_of_getElem? (i := 1232) rfl) rfl
set_option maxRecDepth 100000 in
theorem zA_code : Cond.code (Bundle.initS zNse) prog_29_method_4_code 2 none ∈ ax_Tb := ax_Tb_in (List.mem_of_getElem? (i := 1279) rfl) rfl
set_option maxRecDepth 100000 in
theorem zA_im : Cond.instanceMethod (Bundle.initS zNse) ∈ ax_Tb := ax_Tb_in (List.mem_of_getElem? (i := 1278) rfl) rfl
set_option maxRecDepth 100000 in
theorem zW_in : ∀ w ∈ zWs, w ∈ lw_tbl := List.forall_mem_cons.mpr ⟨List.mem_of_getElem? (i := 1241) rfl, List.forall_mem_cons.mpr ⟨List.mem_of_getElem? (i := 1243) rfl, List.forall_mem_cons.mpr ⟨List.mem_of_getElem? (i := 1245) rfl, List.forall_mem_cons.mpr ⟨List.mem_of_getElem? (i := 1239) rfl, fun _ h => by cases h⟩⟩⟩⟩
set_option maxRecDepth 100000 in
theorem zL_in : Cond.laysStatic Bundle.tN zUs Bundle.steD ∈ lw_tbl ∧ Cond.laysStatic Bundle.tN zSs Bundle.listD ∈ lw_tbl ∧ Cond.initialized Bundle.tN ∈ lw_tbl := ⟨List.mem_of_getElem? (i := 1264) rfl, List.mem_of_getElem? (i := 1266) rfl, List.mem_of_getElem? (i := 111) rfl⟩
set_option maxRecDepth 100000 in
theorem zR_in : Cond.stringRef "ShakingCourt" 253 "no such serving" ∈ lw_tbl ∧ Cond.stringRef "ShakingCourt" 262 "no such rest" ∈ lw_tbl ∧ Cond.stringRef "ShakingCourt$Tokens" 71 ax_words ∈ lw_tbl := ⟨List.mem_of_getElem? (i := 1276) rfl, List.mem_of_getElem? (i := 1308) rfl, List.mem_of_getElem? (i := 555) rfl⟩
