/-! the lists of part 02 are what the bytes say; their words are in the tables -/
def ax_fin (e : Nat) : Bool := match ax_cl[e / 256]? with
  | some r => (r.2.1 (e / 4 % 64)).2.2.2
  | none => true
def ax_np (M : Nat) : Nat := match ax_m M with
  | some m => (match parseMethodDescriptor m.1.desc with
    | some d => d.parameters.length
    | none => 1000)
  | none => 1000
def ax_kind (M : Nat) : Nat := match ax_m M with
  | some m => m.2.2.2.2.1
  | none => 9
def ax_off (pc : Nat) (off : Int) : Option Int := if 0 ≤ (pc : Int) + off then some (pc + off) else none
def ax_call (kind : Nat) (M : Int) : Option Instr := if ax_kind M.toNat = kind ∧ M.toNat / 128 ≠ 12 ∧ ax_np M.toNat < 1000 then some (.invokeinterface M.toNat ((ax_np M.toNat + (if kind = 0 then 0 else 1)) * 4 + kind)) else none
def ax_enc (o pc : Nat) (init : Bool) (i : Instr) : Option Instr := match i with
  | .iload_n k => some (.iload k)
  | .iload k => some (.iload k)
  | .lload_n k => some (.lload k)
  | .lload k => some (.lload k)
  | .aload_n k => some (.aload k)
  | .aload k => some (.aload k)
  | .istore_n k => some (.istore k)
  | .istore k => some (.istore k)
  | .lstore_n k => some (.lstore k)
  | .lstore k => some (.lstore k)
  | .astore_n k => some (.astore k)
  | .astore k => some (.astore k)
  | .iinc k c => some (.iinc k c)
  | .iconst v => some (.iconst v)
  | .bipush v => some (.iconst (Int8.ofInt v).toInt32.toInt)
  | .sipush v => some (.iconst (Int16.ofInt v).toInt32.toInt)
  | .lconst v => some (.goto_w (Int.ofNat v.val))
  | .ldc2_w k => (match (ax_res o).lookup k with
    | some (5, v) => some (.goto_w v)
    | _ => none)
  | .ldc k => (match (ax_res o).lookup k with
    | some (6, v) => some (.iconst v)
    | some (7, v) => some (.ldc v.toNat)
    | _ => none)
  | .ldc_w k => (match (ax_res o).lookup k with
    | some (6, v) => some (.iconst v)
    | _ => none)
  | .ifCond c off => (match ax_off pc off with
    | some t => some (.ifCond c t)
    | none => none)
  | .if_icmp c off => (match ax_off pc off with
    | some t => some (.if_icmp c t)
    | none => none)
  | .goto off => (match ax_off pc off with
    | some t => some (.goto t)
    | none => none)
  | .tableswitch d lo hi offs => if 0 ≤ (pc : Int) + d ∧ offs.all (fun x => decide (0 ≤ (pc : Int) + x)) = true then some (.tableswitch (pc + d) lo hi (offs.map fun x => (pc : Int) + x)) else none
  | .lookupswitch d ps => if 0 ≤ (pc : Int) + d ∧ ps.all (fun x => decide (0 ≤ (pc : Int) + x.2)) = true ∧ (ps.toList.zip (ps.toList.drop 1)).all (fun (a, next) => a.1 < next.1) = true then some (.lookupswitch (pc + d) (ps.map fun x => (x.1, (pc : Int) + x.2))) else none
  | .getfield k => (match (ax_res o).lookup k with
    | some (0, e) => some (.getfield e.toNat)
    | _ => none)
  | .putfield k => (match (ax_res o).lookup k with
    | some (0, e) => if ax_fin e.toNat then (if init = true ∧ e.toNat / 256 = o then some (.putstatic e.toNat) else none) else some (.putfield e.toNat)
    | _ => none)
  | .invokevirtual k => (match (ax_res o).lookup k with
    | some (1, M) => ax_call 1 M
    | some (3, 2) => some (.invokedynamic 2)
    | some (3, 3) => some (.invokedynamic 3)
    | _ => none)
  | .invokespecial k => (match (ax_res o).lookup k with
    | some (1, M) => ax_call 2 M
    | some (2, M) => ax_call 2 M
    | some (3, 0) => some (.invokedynamic 0)
    | _ => none)
  | .invokestatic k => (match (ax_res o).lookup k with
    | some (1, M) => ax_call 0 M
    | some (2, M) => ax_call 0 M
    | some (3, 1) => some (.invokedynamic 1)
    | some (3, 4) => some (.invokedynamic 4)
    | _ => none)
  | .new k => (match (ax_res o).lookup k with
    | some (4, c) => some (.new c.toNat)
    | _ => none)
  | .anewarray k => (match (ax_res o).lookup k with
    | some (4, c) => some (.anewarray c.toNat)
    | _ => none)
  | .newarray t => some (.newarray t)
  | .iadd => some .iadd
  | .isub => some .isub
  | .imul => some .imul
  | .idiv => some .idiv
  | .irem => some .irem
  | .ineg => some .ineg
  | .iand => some .iand
  | .ior => some .ior
  | .ixor => some .ixor
  | .ishl => some .ishl
  | .ishr => some .ishr
  | .iushr => some .iushr
  | .ladd => some .ladd
  | .lsub => some .lsub
  | .lmul => some .lmul
  | .ldiv => some .ldiv
  | .lrem => some .lrem
  | .land => some .land
  | .lor => some .lor
  | .lshl => some .lshl
  | .lshr => some .lshr
  | .lushr => some .lushr
  | .lcmp => some .lcmp
  | .i2l => some .i2l
  | .l2i => some .l2i
  | .i2b => some .i2b
  | .dup => some .dup
  | .dup2 => some .dup2
  | .pop => some .pop
  | .iaload => some .iaload
  | .iastore => some .iastore
  | .baload => some .baload
  | .bastore => some .bastore
  | .laload => some .laload
  | .lastore => some .lastore
  | .aaload => some .aaload
  | .aastore => some .aastore
  | .arraylength => some .arraylength
  | .ireturn => some .ireturn
  | .return_ => some .return_
  | .areturn => some .areturn
  | _ => none
/-- how long an instruction is (0: a switch) -/
def ax_ln (i : Instr) : Nat := match i with
  | .iload _ | .lload _ | .aload _ | .istore _ | .lstore _ | .astore _ | .bipush _ | .ldc _ | .newarray _ => 2
  | .sipush _ | .ldc2_w _ | .ldc_w _ | .ifCond .. | .if_icmp .. | .goto _ | .getfield _ | .putfield _ | .invokevirtual _ | .invokespecial _ | .invokestatic _ | .new _ | .anewarray _ | .iinc .. => 3
  | .tableswitch .. | .lookupswitch .. => 0
  | _ => 1
def ax_ck1 (o : Nat) (init : Bool) (bytes : ByteArray) (pc len : Nat) (i : Instr) : Bool := match decode bytes pc with
  | .ok (ri, l) => decide (l = len) && decide (ax_ln ri = 0 ∨ ax_ln ri = len) && decide (ax_enc o pc init ri = some i)
  | _ => false
def ax_chk (o : Nat) (init : Bool) (bytes : ByteArray) : Nat → List (Nat × Instr) → Bool
  | _, [] => true
  | pc, (len, i) :: rest => ax_ck1 o init bytes pc len i && ax_chk o init bytes (pc + len) rest
def ax_okM (o : Nat) (m : ax_M) : Bool := decide (m.1.cls = ax_nm o) && decide (m.2.2.1 ≤ 45) && decide (m.2.2.2.2.1 ≤ 2) && decide (m.2.2.2.2.1 = 2 ↔ m.1.name = "<init>") && m.2.2.2.2.2.all fun b => ax_chk o (decide (m.1.name = "<init>")) m.2.1 b.1 b.2
def ax_okW (m : ax_M) : Prop := Cond.code m.1 m.2.1 m.2.2.1 m.2.2.2.1 ∈ lw_tbl ∧ Cond.initialized m.1.cls ∈ lw_tbl ∧ (m.2.2.2.2.1 = 0 → Cond.static m.1 ∈ lw_tbl) ∧ (m.2.2.2.2.1 ≠ 0 → Cond.instanceMethod m.1 ∈ lw_tbl) ∧ (m.2.2.2.2.1 = 1 → Cond.selects m.1.cls m.1 m.1 ∈ lw_tbl)
def ax_yb (b : Int) : MethodName := match b with
  | 0 => ⟨"java/lang/Object", "<init>", "()V"⟩
  | 1 => ⟨"java/lang/System", "arraycopy", "(Ljava/lang/Object;ILjava/lang/Object;II)V"⟩
  | 2 => ⟨"java/lang/String", "length", "()I"⟩
  | 3 => ⟨"java/lang/String", "charAt", "(I)C"⟩
  | _ => ⟨"ShakingCourtLaw", "rests", "(LShakingCourt;IIII[J)I"⟩
def ax_y (M : Nat) : MethodName := match ax_m M with
  | some m => m.1
  | none => ⟨"", "", ""⟩
def ax_fd (e : Nat) : String × String × String × Bool := match ax_cl[e / 256]? with
  | some r => r.2.1 (e / 4 % 64)
  | none => ("", "", "", true)
/-- the word that an entry of a pool needs -/
def ax_word (o : Nat) (r : Nat × Nat × Int) : Cond := match r.2.1 with
  | 0 => .fieldLink (ax_nm o) r.1 (ax_fd r.2.2.toNat).1 (ax_fd r.2.2.toNat).2.1 (ax_fd r.2.2.toNat).2.2.1
  | 1 => .methodLink (ax_nm o) r.1 (ax_y r.2.2.toNat)
  | 2 => .methodLinkNest (ax_nm o) r.1 (ax_y r.2.2.toNat) "ShakingCourt"
  | 3 => .methodLink (ax_nm o) r.1 (ax_yb r.2.2)
  | 4 => .classLink (ax_nm o) r.1 (ax_nm r.2.2.toNat)
  | 5 => .constantLong (ax_nm o) r.1 (Int64.ofInt r.2.2)
  | 6 => .constant (ax_nm o) r.1 (Int32.ofInt r.2.2)
  | _ => .stringRef (ax_nm o) r.1 ax_words
set_option maxRecDepth 20000 in
theorem ax_k_0_0 : ax_okM 0 ax_m_0_0 = true := by decide +kernel
set_option maxRecDepth 20000 in
theorem ax_k_0_1 : ax_okM 0 ax_m_0_1 = true := by decide +kernel
set_option maxRecDepth 20000 in
theorem ax_k_0_2 : ax_okM 0 ax_m_0_2 = true := by decide +kernel
set_option maxRecDepth 20000 in
theorem ax_k_0_3 : ax_okM 0 ax_m_0_3 = true := by decide +kernel
set_option maxRecDepth 20000 in
theorem ax_k_0_4 : ax_okM 0 ax_m_0_4 = true := by decide +kernel
set_option maxRecDepth 20000 in
theorem ax_k_0_5 : ax_okM 0 ax_m_0_5 = true := by decide +kernel
set_option maxRecDepth 20000 in
theorem ax_k_0_6 : ax_okM 0 ax_m_0_6 = true := by decide +kernel
set_option maxRecDepth 20000 in
theorem ax_k_0_7 : ax_okM 0 ax_m_0_7 = true := by decide +kernel
set_option maxRecDepth 20000 in
theorem ax_k_0_8 : ax_okM 0 ax_m_0_8 = true := by decide +kernel
set_option maxRecDepth 20000 in
theorem ax_k_0_9 : ax_okM 0 ax_m_0_9 = true := by decide +kernel
set_option maxRecDepth 20000 in
theorem ax_k_0_10 : ax_okM 0 ax_m_0_10 = true := by decide +kernel
set_option maxRecDepth 20000 in
theorem ax_k_0_11 : ax_okM 0 ax_m_0_11 = true := by decide +kernel
set_option maxRecDepth 20000 in
theorem ax_k_0_12 : ax_okM 0 ax_m_0_12 = true := by decide +kernel
set_option maxRecDepth 20000 in
theorem ax_k_0_13 : ax_okM 0 ax_m_0_13 = true := by decide +kernel
set_option maxRecDepth 20000 in
theorem ax_k_0_14 : ax_okM 0 ax_m_0_14 = true := by decide +kernel
set_option maxRecDepth 20000 in
theorem ax_k_0_15 : ax_okM 0 ax_m_0_15 = true := by decide +kernel
set_option maxRecDepth 20000 in
theorem ax_k_0_16 : ax_okM 0 ax_m_0_16 = true := by decide +kernel
set_option maxRecDepth 20000 in
theorem ax_k_0_17 : ax_okM 0 ax_m_0_17 = true := by decide +kernel
set_option maxRecDepth 20000 in
theorem ax_k_0_18 : ax_okM 0 ax_m_0_18 = true := by decide +kernel
set_option maxRecDepth 20000 in
theorem ax_k_0_19 : ax_okM 0 ax_m_0_19 = true := by decide +kernel
set_option maxRecDepth 20000 in
theorem ax_k_0_20 : ax_okM 0 ax_m_0_20 = true := by decide +kernel
set_option maxRecDepth 20000 in
theorem ax_k_0_21 : ax_okM 0 ax_m_0_21 = true := by decide +kernel
set_option maxRecDepth 20000 in
theorem ax_k_0_22 : ax_okM 0 ax_m_0_22 = true := by decide +kernel
set_option maxRecDepth 20000 in
theorem ax_k_0_23 : ax_okM 0 ax_m_0_23 = true := by decide +kernel
set_option maxRecDepth 20000 in
theorem ax_k_0_24 : ax_okM 0 ax_m_0_24 = true := by decide +kernel
set_option maxRecDepth 20000 in
theorem ax_k_0_25 : ax_okM 0 ax_m_0_25 = true := by decide +kernel
set_option maxRecDepth 20000 in
theorem ax_k_0_26 : ax_okM 0 ax_m_0_26 = true := by decide +kernel
set_option maxRecDepth 20000 in
theorem ax_k_1_0 : ax_okM 1 ax_m_1_0 = true := by decide +kernel
set_option maxRecDepth 20000 in
theorem ax_k_1_1 : ax_okM 1 ax_m_1_1 = true := by decide +kernel
set_option maxRecDepth 20000 in
theorem ax_k_1_2 : ax_okM 1 ax_m_1_2 = true := by decide +kernel
set_option maxRecDepth 20000 in
theorem ax_k_1_3 : ax_okM 1 ax_m_1_3 = true := by decide +kernel
set_option maxRecDepth 20000 in
theorem ax_k_1_4 : ax_okM 1 ax_m_1_4 = true := by decide +kernel
set_option maxRecDepth 20000 in
theorem ax_k_1_5 : ax_okM 1 ax_m_1_5 = true := by decide +kernel
set_option maxRecDepth 20000 in
theorem ax_k_1_6 : ax_okM 1 ax_m_1_6 = true := by decide +kernel
set_option maxRecDepth 20000 in
theorem ax_k_1_7 : ax_okM 1 ax_m_1_7 = true := by decide +kernel
set_option maxRecDepth 20000 in
theorem ax_k_1_8 : ax_okM 1 ax_m_1_8 = true := by decide +kernel
set_option maxRecDepth 20000 in
theorem ax_k_1_9 : ax_okM 1 ax_m_1_9 = true := by decide +kernel
set_option maxRecDepth 20000 in
theorem ax_k_1_10 : ax_okM 1 ax_m_1_10 = true := by decide +kernel
set_option maxRecDepth 20000 in
theorem ax_k_2_0 : ax_okM 2 ax_m_2_0 = true := by decide +kernel
set_option maxRecDepth 20000 in
theorem ax_k_2_1 : ax_okM 2 ax_m_2_1 = true := by decide +kernel
set_option maxRecDepth 20000 in
theorem ax_k_2_2 : ax_okM 2 ax_m_2_2 = true := by decide +kernel
set_option maxRecDepth 20000 in
theorem ax_k_2_3 : ax_okM 2 ax_m_2_3 = true := by decide +kernel
set_option maxRecDepth 20000 in
theorem ax_k_2_4 : ax_okM 2 ax_m_2_4 = true := by decide +kernel
set_option maxRecDepth 20000 in
theorem ax_k_3_0 : ax_okM 3 ax_m_3_0 = true := by decide +kernel
set_option maxRecDepth 20000 in
theorem ax_k_3_1 : ax_okM 3 ax_m_3_1 = true := by decide +kernel
set_option maxRecDepth 20000 in
theorem ax_k_3_2 : ax_okM 3 ax_m_3_2 = true := by decide +kernel
set_option maxRecDepth 20000 in
theorem ax_k_3_3 : ax_okM 3 ax_m_3_3 = true := by decide +kernel
set_option maxRecDepth 20000 in
theorem ax_k_3_4 : ax_okM 3 ax_m_3_4 = true := by decide +kernel
set_option maxRecDepth 20000 in
theorem ax_k_4_0 : ax_okM 4 ax_m_4_0 = true := by decide +kernel
set_option maxRecDepth 20000 in
theorem ax_k_4_1 : ax_okM 4 ax_m_4_1 = true := by decide +kernel
set_option maxRecDepth 20000 in
theorem ax_k_4_2 : ax_okM 4 ax_m_4_2 = true := by decide +kernel
set_option maxRecDepth 20000 in
theorem ax_k_4_3 : ax_okM 4 ax_m_4_3 = true := by decide +kernel
set_option maxRecDepth 20000 in
theorem ax_k_4_4 : ax_okM 4 ax_m_4_4 = true := by decide +kernel
set_option maxRecDepth 20000 in
theorem ax_k_4_5 : ax_okM 4 ax_m_4_5 = true := by decide +kernel
set_option maxRecDepth 20000 in
theorem ax_k_5_0 : ax_okM 5 ax_m_5_0 = true := by decide +kernel
set_option maxRecDepth 20000 in
theorem ax_k_5_1 : ax_okM 5 ax_m_5_1 = true := by decide +kernel
set_option maxRecDepth 20000 in
theorem ax_k_5_2 : ax_okM 5 ax_m_5_2 = true := by decide +kernel
set_option maxRecDepth 20000 in
theorem ax_k_5_3 : ax_okM 5 ax_m_5_3 = true := by decide +kernel
set_option maxRecDepth 20000 in
theorem ax_k_5_4 : ax_okM 5 ax_m_5_4 = true := by decide +kernel
set_option maxRecDepth 20000 in
theorem ax_k_5_5 : ax_okM 5 ax_m_5_5 = true := by decide +kernel
set_option maxRecDepth 20000 in
theorem ax_k_5_6 : ax_okM 5 ax_m_5_6 = true := by decide +kernel
set_option maxRecDepth 20000 in
theorem ax_k_5_7 : ax_okM 5 ax_m_5_7 = true := by decide +kernel
set_option maxRecDepth 20000 in
theorem ax_k_5_8 : ax_okM 5 ax_m_5_8 = true := by decide +kernel
set_option maxRecDepth 20000 in
theorem ax_k_6_0 : ax_okM 6 ax_m_6_0 = true := by decide +kernel
set_option maxRecDepth 20000 in
theorem ax_k_6_1 : ax_okM 6 ax_m_6_1 = true := by decide +kernel
set_option maxRecDepth 20000 in
theorem ax_k_6_2 : ax_okM 6 ax_m_6_2 = true := by decide +kernel
set_option maxRecDepth 20000 in
theorem ax_k_6_3 : ax_okM 6 ax_m_6_3 = true := by decide +kernel
set_option maxRecDepth 20000 in
theorem ax_k_6_4 : ax_okM 6 ax_m_6_4 = true := by decide +kernel
set_option maxRecDepth 20000 in
theorem ax_k_6_5 : ax_okM 6 ax_m_6_5 = true := by decide +kernel
set_option maxRecDepth 20000 in
theorem ax_k_6_6 : ax_okM 6 ax_m_6_6 = true := by decide +kernel
set_option maxRecDepth 20000 in
theorem ax_k_6_7 : ax_okM 6 ax_m_6_7 = true := by decide +kernel
set_option maxRecDepth 20000 in
theorem ax_k_6_8 : ax_okM 6 ax_m_6_8 = true := by decide +kernel
set_option maxRecDepth 20000 in
theorem ax_k_6_9 : ax_okM 6 ax_m_6_9 = true := by decide +kernel
set_option maxRecDepth 20000 in
theorem ax_k_6_10 : ax_okM 6 ax_m_6_10 = true := by decide +kernel
set_option maxRecDepth 20000 in
theorem ax_k_6_11 : ax_okM 6 ax_m_6_11 = true := by decide +kernel
set_option maxRecDepth 20000 in
theorem ax_k_6_12 : ax_okM 6 ax_m_6_12 = true := by decide +kernel
set_option maxRecDepth 20000 in
theorem ax_k_6_13 : ax_okM 6 ax_m_6_13 = true := by decide +kernel
set_option maxRecDepth 20000 in
theorem ax_k_6_14 : ax_okM 6 ax_m_6_14 = true := by decide +kernel
set_option maxRecDepth 20000 in
theorem ax_k_6_15 : ax_okM 6 ax_m_6_15 = true := by decide +kernel
set_option maxRecDepth 20000 in
theorem ax_k_6_16 : ax_okM 6 ax_m_6_16 = true := by decide +kernel
set_option maxRecDepth 20000 in
theorem ax_k_6_17 : ax_okM 6 ax_m_6_17 = true := by decide +kernel
set_option maxRecDepth 20000 in
theorem ax_k_6_18 : ax_okM 6 ax_m_6_18 = true := by decide +kernel
set_option maxRecDepth 20000 in
theorem ax_k_7_0 : ax_okM 7 ax_m_7_0 = true := by decide +kernel
set_option maxRecDepth 20000 in
theorem ax_k_7_1 : ax_okM 7 ax_m_7_1 = true := by decide +kernel
set_option maxRecDepth 20000 in
theorem ax_k_7_2 : ax_okM 7 ax_m_7_2 = true := by decide +kernel
set_option maxRecDepth 20000 in
theorem ax_k_8_0 : ax_okM 8 ax_m_8_0 = true := by decide +kernel
set_option maxRecDepth 20000 in
theorem ax_k_8_1 : ax_okM 8 ax_m_8_1 = true := by decide +kernel
set_option maxRecDepth 20000 in
theorem ax_k_8_2 : ax_okM 8 ax_m_8_2 = true := by decide +kernel
set_option maxRecDepth 20000 in
theorem ax_k_8_3 : ax_okM 8 ax_m_8_3 = true := by decide +kernel
set_option maxRecDepth 20000 in
theorem ax_k_8_4 : ax_okM 8 ax_m_8_4 = true := by decide +kernel
set_option maxRecDepth 20000 in
theorem ax_k_8_5 : ax_okM 8 ax_m_8_5 = true := by decide +kernel
set_option maxRecDepth 20000 in
theorem ax_k_8_6 : ax_okM 8 ax_m_8_6 = true := by decide +kernel
set_option maxRecDepth 20000 in
theorem ax_k_8_7 : ax_okM 8 ax_m_8_7 = true := by decide +kernel
set_option maxRecDepth 20000 in
theorem ax_k_8_8 : ax_okM 8 ax_m_8_8 = true := by decide +kernel
set_option maxRecDepth 20000 in
theorem ax_k_8_9 : ax_okM 8 ax_m_8_9 = true := by decide +kernel
set_option maxRecDepth 20000 in
theorem ax_k_8_10 : ax_okM 8 ax_m_8_10 = true := by decide +kernel
set_option maxRecDepth 20000 in
theorem ax_k_8_11 : ax_okM 8 ax_m_8_11 = true := by decide +kernel
set_option maxRecDepth 20000 in
theorem ax_k_8_12 : ax_okM 8 ax_m_8_12 = true := by decide +kernel
set_option maxRecDepth 20000 in
theorem ax_k_8_13 : ax_okM 8 ax_m_8_13 = true := by decide +kernel
set_option maxRecDepth 20000 in
theorem ax_k_8_14 : ax_okM 8 ax_m_8_14 = true := by decide +kernel
set_option maxRecDepth 20000 in
theorem ax_k_8_15 : ax_okM 8 ax_m_8_15 = true := by decide +kernel
set_option maxRecDepth 20000 in
theorem ax_k_8_16 : ax_okM 8 ax_m_8_16 = true := by decide +kernel
set_option maxRecDepth 20000 in
theorem ax_k_8_17 : ax_okM 8 ax_m_8_17 = true := by decide +kernel
set_option maxRecDepth 20000 in
theorem ax_k_8_18 : ax_okM 8 ax_m_8_18 = true := by decide +kernel
set_option maxRecDepth 20000 in
theorem ax_k_8_19 : ax_okM 8 ax_m_8_19 = true := by decide +kernel
set_option maxRecDepth 20000 in
theorem ax_k_8_20 : ax_okM 8 ax_m_8_20 = true := by decide +kernel
set_option maxRecDepth 20000 in
theorem ax_k_8_21 : ax_okM 8 ax_m_8_21 = true := by decide +kernel
set_option maxRecDepth 20000 in
theorem ax_k_8_22 : ax_okM 8 ax_m_8_22 = true := by decide +kernel
set_option maxRecDepth 20000 in
theorem ax_k_8_23 : ax_okM 8 ax_m_8_23 = true := by decide +kernel
set_option maxRecDepth 20000 in
theorem ax_k_8_24 : ax_okM 8 ax_m_8_24 = true := by decide +kernel
set_option maxRecDepth 20000 in
theorem ax_k_8_25 : ax_okM 8 ax_m_8_25 = true := by decide +kernel
set_option maxRecDepth 20000 in
theorem ax_k_8_26 : ax_okM 8 ax_m_8_26 = true := by decide +kernel
set_option maxRecDepth 20000 in
theorem ax_k_8_27 : ax_okM 8 ax_m_8_27 = true := by decide +kernel
set_option maxRecDepth 20000 in
theorem ax_k_8_28 : ax_okM 8 ax_m_8_28 = true := by decide +kernel
set_option maxRecDepth 20000 in
theorem ax_k_9_0 : ax_okM 9 ax_m_9_0 = true := by decide +kernel
set_option maxRecDepth 20000 in
theorem ax_k_9_1 : ax_okM 9 ax_m_9_1 = true := by decide +kernel
set_option maxRecDepth 20000 in
theorem ax_k_9_2 : ax_okM 9 ax_m_9_2 = true := by decide +kernel
set_option maxRecDepth 20000 in
theorem ax_k_9_3 : ax_okM 9 ax_m_9_3 = true := by decide +kernel
set_option maxRecDepth 20000 in
theorem ax_k_9_4 : ax_okM 9 ax_m_9_4 = true := by decide +kernel
set_option maxRecDepth 20000 in
theorem ax_k_9_5 : ax_okM 9 ax_m_9_5 = true := by decide +kernel
set_option maxRecDepth 20000 in
theorem ax_k_9_6 : ax_okM 9 ax_m_9_6 = true := by decide +kernel
set_option maxRecDepth 20000 in
theorem ax_k_9_7 : ax_okM 9 ax_m_9_7 = true := by decide +kernel
set_option maxRecDepth 20000 in
theorem ax_k_9_8 : ax_okM 9 ax_m_9_8 = true := by decide +kernel
set_option maxRecDepth 20000 in
theorem ax_k_9_9 : ax_okM 9 ax_m_9_9 = true := by decide +kernel
set_option maxRecDepth 20000 in
theorem ax_k_9_10 : ax_okM 9 ax_m_9_10 = true := by decide +kernel
set_option maxRecDepth 20000 in
theorem ax_k_9_11 : ax_okM 9 ax_m_9_11 = true := by decide +kernel
set_option maxRecDepth 20000 in
theorem ax_k_9_12 : ax_okM 9 ax_m_9_12 = true := by decide +kernel
set_option maxRecDepth 20000 in
theorem ax_k_9_13 : ax_okM 9 ax_m_9_13 = true := by decide +kernel
set_option maxRecDepth 20000 in
theorem ax_k_9_14 : ax_okM 9 ax_m_9_14 = true := by decide +kernel
set_option maxRecDepth 20000 in
theorem ax_k_10_0 : ax_okM 10 ax_m_10_0 = true := by decide +kernel
set_option maxRecDepth 20000 in
theorem ax_k_10_1 : ax_okM 10 ax_m_10_1 = true := by decide +kernel
set_option maxRecDepth 20000 in
theorem ax_k_10_2 : ax_okM 10 ax_m_10_2 = true := by decide +kernel
set_option maxRecDepth 20000 in
theorem ax_k_10_3 : ax_okM 10 ax_m_10_3 = true := by decide +kernel
set_option maxRecDepth 20000 in
theorem ax_k_10_4 : ax_okM 10 ax_m_10_4 = true := by decide +kernel
set_option maxRecDepth 20000 in
theorem ax_k_10_5 : ax_okM 10 ax_m_10_5 = true := by decide +kernel
set_option maxRecDepth 20000 in
theorem ax_k_10_6 : ax_okM 10 ax_m_10_6 = true := by decide +kernel
set_option maxRecDepth 20000 in
theorem ax_k_10_7 : ax_okM 10 ax_m_10_7 = true := by decide +kernel
set_option maxRecDepth 20000 in
theorem ax_k_10_8 : ax_okM 10 ax_m_10_8 = true := by decide +kernel
set_option maxRecDepth 20000 in
theorem ax_k_10_9 : ax_okM 10 ax_m_10_9 = true := by decide +kernel
set_option maxRecDepth 20000 in
theorem ax_k_10_10 : ax_okM 10 ax_m_10_10 = true := by decide +kernel
set_option maxRecDepth 20000 in
theorem ax_k_10_11 : ax_okM 10 ax_m_10_11 = true := by decide +kernel
set_option maxRecDepth 20000 in
theorem ax_k_10_12 : ax_okM 10 ax_m_10_12 = true := by decide +kernel
set_option maxRecDepth 20000 in
theorem ax_k_10_13 : ax_okM 10 ax_m_10_13 = true := by decide +kernel
set_option maxRecDepth 20000 in
theorem ax_k_10_14 : ax_okM 10 ax_m_10_14 = true := by decide +kernel
set_option maxRecDepth 20000 in
theorem ax_k_10_15 : ax_okM 10 ax_m_10_15 = true := by decide +kernel
set_option maxRecDepth 20000 in
theorem ax_k_10_16 : ax_okM 10 ax_m_10_16 = true := by decide +kernel
set_option maxRecDepth 20000 in
theorem ax_k_10_17 : ax_okM 10 ax_m_10_17 = true := by decide +kernel
set_option maxRecDepth 20000 in
theorem ax_k_10_18 : ax_okM 10 ax_m_10_18 = true := by decide +kernel
set_option maxRecDepth 20000 in
theorem ax_k_10_19 : ax_okM 10 ax_m_10_19 = true := by decide +kernel
set_option maxRecDepth 20000 in
theorem ax_k_10_20 : ax_okM 10 ax_m_10_20 = true := by decide +kernel
set_option maxRecDepth 20000 in
theorem ax_k_10_21 : ax_okM 10 ax_m_10_21 = true := by decide +kernel
set_option maxRecDepth 20000 in
theorem ax_k_10_22 : ax_okM 10 ax_m_10_22 = true := by decide +kernel
set_option maxRecDepth 20000 in
theorem ax_k_10_23 : ax_okM 10 ax_m_10_23 = true := by decide +kernel
set_option maxRecDepth 20000 in
theorem ax_k_10_24 : ax_okM 10 ax_m_10_24 = true := by decide +kernel
set_option maxRecDepth 20000 in
theorem ax_k_10_25 : ax_okM 10 ax_m_10_25 = true := by decide +kernel
set_option maxRecDepth 20000 in
theorem ax_k_10_26 : ax_okM 10 ax_m_10_26 = true := by decide +kernel
set_option maxRecDepth 20000 in
theorem ax_k_10_27 : ax_okM 10 ax_m_10_27 = true := by decide +kernel
set_option maxRecDepth 20000 in
theorem ax_k_10_28 : ax_okM 10 ax_m_10_28 = true := by decide +kernel
set_option maxRecDepth 20000 in
theorem ax_k_10_29 : ax_okM 10 ax_m_10_29 = true := by decide +kernel
set_option maxRecDepth 20000 in
theorem ax_k_10_30 : ax_okM 10 ax_m_10_30 = true := by decide +kernel
set_option maxRecDepth 20000 in
theorem ax_k_10_31 : ax_okM 10 ax_m_10_31 = true := by decide +kernel
set_option maxRecDepth 20000 in
theorem ax_k_10_32 : ax_okM 10 ax_m_10_32 = true := by decide +kernel
set_option maxRecDepth 20000 in
theorem ax_k_10_33 : ax_okM 10 ax_m_10_33 = true := by decide +kernel
set_option maxRecDepth 20000 in
theorem ax_k_10_34 : ax_okM 10 ax_m_10_34 = true := by decide +kernel
set_option maxRecDepth 20000 in
theorem ax_k_10_35 : ax_okM 10 ax_m_10_35 = true := by decide +kernel
set_option maxRecDepth 20000 in
theorem ax_k_10_36 : ax_okM 10 ax_m_10_36 = true := by decide +kernel
set_option maxRecDepth 20000 in
theorem ax_k_10_37 : ax_okM 10 ax_m_10_37 = true := by decide +kernel
set_option maxRecDepth 20000 in
theorem ax_k_10_38 : ax_okM 10 ax_m_10_38 = true := by decide +kernel
set_option maxRecDepth 20000 in
theorem ax_k_10_39 : ax_okM 10 ax_m_10_39 = true := by decide +kernel
set_option maxRecDepth 20000 in
theorem ax_k_10_40 : ax_okM 10 ax_m_10_40 = true := by decide +kernel
set_option maxRecDepth 20000 in
theorem ax_k_10_41 : ax_okM 10 ax_m_10_41 = true := by decide +kernel
set_option maxRecDepth 20000 in
theorem ax_k_10_42 : ax_okM 10 ax_m_10_42 = true := by decide +kernel
set_option maxRecDepth 20000 in
theorem ax_k_11_0 : ax_okM 11 ax_m_11_0 = true := by decide +kernel
set_option maxRecDepth 20000 in
theorem ax_k_11_1 : ax_okM 11 ax_m_11_1 = true := by decide +kernel
set_option maxRecDepth 20000 in
theorem ax_k_11_2 : ax_okM 11 ax_m_11_2 = true := by decide +kernel
set_option maxRecDepth 20000 in
theorem ax_k_11_3 : ax_okM 11 ax_m_11_3 = true := by decide +kernel
set_option maxRecDepth 20000 in
theorem ax_k_11_4 : ax_okM 11 ax_m_11_4 = true := by decide +kernel
set_option maxRecDepth 20000 in
theorem ax_k_11_5 : ax_okM 11 ax_m_11_5 = true := by decide +kernel
set_option maxRecDepth 20000 in
theorem ax_k_11_6 : ax_okM 11 ax_m_11_6 = true := by decide +kernel
set_option maxRecDepth 20000 in
theorem ax_k_11_7 : ax_okM 11 ax_m_11_7 = true := by decide +kernel
set_option maxRecDepth 20000 in
theorem ax_k_11_8 : ax_okM 11 ax_m_11_8 = true := by decide +kernel
set_option maxRecDepth 20000 in
theorem ax_k_11_9 : ax_okM 11 ax_m_11_9 = true := by decide +kernel
set_option maxRecDepth 20000 in
theorem ax_k_11_10 : ax_okM 11 ax_m_11_10 = true := by decide +kernel
set_option maxRecDepth 20000 in
theorem ax_k_11_11 : ax_okM 11 ax_m_11_11 = true := by decide +kernel
set_option maxRecDepth 20000 in
theorem ax_k_11_12 : ax_okM 11 ax_m_11_12 = true := by decide +kernel
set_option maxRecDepth 20000 in
theorem ax_k_11_13 : ax_okM 11 ax_m_11_13 = true := by decide +kernel
set_option maxRecDepth 20000 in
theorem ax_k_11_14 : ax_okM 11 ax_m_11_14 = true := by decide +kernel
set_option maxRecDepth 20000 in
theorem ax_k_11_15 : ax_okM 11 ax_m_11_15 = true := by decide +kernel
set_option maxRecDepth 20000 in
theorem ax_k_11_16 : ax_okM 11 ax_m_11_16 = true := by decide +kernel
set_option maxRecDepth 20000 in
theorem ax_k_11_17 : ax_okM 11 ax_m_11_17 = true := by decide +kernel
set_option maxRecDepth 20000 in
theorem ax_k_11_18 : ax_okM 11 ax_m_11_18 = true := by decide +kernel
set_option maxRecDepth 20000 in
theorem ax_k_11_19 : ax_okM 11 ax_m_11_19 = true := by decide +kernel
set_option maxRecDepth 20000 in
theorem ax_k_11_20 : ax_okM 11 ax_m_11_20 = true := by decide +kernel
set_option maxRecDepth 20000 in
theorem ax_k_11_21 : ax_okM 11 ax_m_11_21 = true := by decide +kernel
set_option maxRecDepth 20000 in
theorem ax_k_11_22 : ax_okM 11 ax_m_11_22 = true := by decide +kernel
set_option maxRecDepth 20000 in
theorem ax_k_11_23 : ax_okM 11 ax_m_11_23 = true := by decide +kernel
set_option maxRecDepth 20000 in
theorem ax_k_11_24 : ax_okM 11 ax_m_11_24 = true := by decide +kernel
set_option maxRecDepth 20000 in
theorem ax_k_11_25 : ax_okM 11 ax_m_11_25 = true := by decide +kernel
set_option maxRecDepth 20000 in
theorem ax_k_11_26 : ax_okM 11 ax_m_11_26 = true := by decide +kernel
set_option maxRecDepth 20000 in
theorem ax_k_11_27 : ax_okM 11 ax_m_11_27 = true := by decide +kernel
set_option maxRecDepth 20000 in
theorem ax_k_11_28 : ax_okM 11 ax_m_11_28 = true := by decide +kernel
set_option maxRecDepth 20000 in
theorem ax_k_11_29 : ax_okM 11 ax_m_11_29 = true := by decide +kernel
set_option maxRecDepth 20000 in
theorem ax_k_11_30 : ax_okM 11 ax_m_11_30 = true := by decide +kernel
set_option maxRecDepth 20000 in
theorem ax_k_11_31 : ax_okM 11 ax_m_11_31 = true := by decide +kernel
set_option maxRecDepth 20000 in
theorem ax_k_11_32 : ax_okM 11 ax_m_11_32 = true := by decide +kernel
set_option maxRecDepth 20000 in
theorem ax_k_11_33 : ax_okM 11 ax_m_11_33 = true := by decide +kernel
set_option maxRecDepth 20000 in
theorem ax_k_11_34 : ax_okM 11 ax_m_11_34 = true := by decide +kernel
set_option maxRecDepth 20000 in
theorem ax_k_11_35 : ax_okM 11 ax_m_11_35 = true := by decide +kernel
set_option maxRecDepth 20000 in
theorem ax_k_11_36 : ax_okM 11 ax_m_11_36 = true := by decide +kernel
set_option maxRecDepth 20000 in
theorem ax_k_11_37 : ax_okM 11 ax_m_11_37 = true := by decide +kernel
set_option maxRecDepth 20000 in
theorem ax_k_11_38 : ax_okM 11 ax_m_11_38 = true := by decide +kernel
set_option maxRecDepth 20000 in
theorem ax_k_11_39 : ax_okM 11 ax_m_11_39 = true := by decide +kernel
set_option maxRecDepth 20000 in
theorem ax_k_11_40 : ax_okM 11 ax_m_11_40 = true := by decide +kernel
set_option maxRecDepth 20000 in
theorem ax_k_11_41 : ax_okM 11 ax_m_11_41 = true := by decide +kernel
set_option maxRecDepth 20000 in
theorem ax_k_11_42 : ax_okM 11 ax_m_11_42 = true := by decide +kernel
set_option maxRecDepth 20000 in
theorem ax_k_11_43 : ax_okM 11 ax_m_11_43 = true := by decide +kernel
set_option maxRecDepth 20000 in
theorem ax_k_11_44 : ax_okM 11 ax_m_11_44 = true := by decide +kernel
set_option maxRecDepth 20000 in
theorem ax_k_11_45 : ax_okM 11 ax_m_11_45 = true := by decide +kernel
set_option maxRecDepth 20000 in
theorem ax_k_11_46 : ax_okM 11 ax_m_11_46 = true := by decide +kernel
set_option maxRecDepth 20000 in
theorem ax_k_11_47 : ax_okM 11 ax_m_11_47 = true := by decide +kernel
set_option maxRecDepth 20000 in
theorem ax_k_11_48 : ax_okM 11 ax_m_11_48 = true := by decide +kernel
set_option maxRecDepth 20000 in
theorem ax_k_11_49 : ax_okM 11 ax_m_11_49 = true := by decide +kernel
set_option maxRecDepth 20000 in
theorem ax_k_11_50 : ax_okM 11 ax_m_11_50 = true := by decide +kernel
set_option maxRecDepth 20000 in
theorem ax_k_11_51 : ax_okM 11 ax_m_11_51 = true := by decide +kernel
set_option maxRecDepth 20000 in
theorem ax_k_11_52 : ax_okM 11 ax_m_11_52 = true := by decide +kernel
set_option maxRecDepth 20000 in
theorem ax_k_11_53 : ax_okM 11 ax_m_11_53 = true := by decide +kernel
set_option maxRecDepth 20000 in
theorem ax_k_11_54 : ax_okM 11 ax_m_11_54 = true := by decide +kernel
set_option maxRecDepth 20000 in
theorem ax_k_11_55 : ax_okM 11 ax_m_11_55 = true := by decide +kernel
set_option maxRecDepth 20000 in
theorem ax_k_11_56 : ax_okM 11 ax_m_11_56 = true := by decide +kernel
set_option maxRecDepth 20000 in
theorem ax_k_11_57 : ax_okM 11 ax_m_11_57 = true := by decide +kernel
set_option maxRecDepth 20000 in
theorem ax_k_11_58 : ax_okM 11 ax_m_11_58 = true := by decide +kernel
set_option maxRecDepth 20000 in
theorem ax_k_11_59 : ax_okM 11 ax_m_11_59 = true := by decide +kernel
set_option maxRecDepth 20000 in
theorem ax_k_11_60 : ax_okM 11 ax_m_11_60 = true := by decide +kernel
set_option maxRecDepth 20000 in
theorem ax_k_11_61 : ax_okM 11 ax_m_11_61 = true := by decide +kernel
set_option maxRecDepth 20000 in
theorem ax_k_11_62 : ax_okM 11 ax_m_11_62 = true := by decide +kernel
set_option maxRecDepth 20000 in
theorem ax_k_11_63 : ax_okM 11 ax_m_11_63 = true := by decide +kernel
set_option maxRecDepth 20000 in
theorem ax_k_11_64 : ax_okM 11 ax_m_11_64 = true := by decide +kernel
set_option maxRecDepth 20000 in
theorem ax_k_11_65 : ax_okM 11 ax_m_11_65 = true := by decide +kernel
set_option maxRecDepth 20000 in
theorem ax_k_11_66 : ax_okM 11 ax_m_11_66 = true := by decide +kernel
set_option maxRecDepth 20000 in
theorem ax_k_11_67 : ax_okM 11 ax_m_11_67 = true := by decide +kernel
set_option maxRecDepth 20000 in
theorem ax_k_11_68 : ax_okM 11 ax_m_11_68 = true := by decide +kernel
set_option maxRecDepth 20000 in
theorem ax_k_11_69 : ax_okM 11 ax_m_11_69 = true := by decide +kernel
set_option maxRecDepth 20000 in
theorem ax_k_11_70 : ax_okM 11 ax_m_11_70 = true := by decide +kernel
set_option maxRecDepth 20000 in
theorem ax_k_11_71 : ax_okM 11 ax_m_11_71 = true := by decide +kernel
set_option maxRecDepth 20000 in
theorem ax_k_11_72 : ax_okM 11 ax_m_11_72 = true := by decide +kernel
set_option maxRecDepth 20000 in
theorem ax_k_11_73 : ax_okM 11 ax_m_11_73 = true := by decide +kernel
set_option maxRecDepth 20000 in
theorem ax_k_11_74 : ax_okM 11 ax_m_11_74 = true := by decide +kernel
set_option maxRecDepth 20000 in
theorem ax_k_11_75 : ax_okM 11 ax_m_11_75 = true := by decide +kernel
set_option maxRecDepth 20000 in
theorem ax_k_11_76 : ax_okM 11 ax_m_11_76 = true := by decide +kernel
set_option maxRecDepth 20000 in
theorem ax_k_11_77 : ax_okM 11 ax_m_11_77 = true := by decide +kernel
set_option maxRecDepth 20000 in
theorem ax_k_11_78 : ax_okM 11 ax_m_11_78 = true := by decide +kernel
set_option maxRecDepth 20000 in
theorem ax_k_11_79 : ax_okM 11 ax_m_11_79 = true := by decide +kernel
set_option maxRecDepth 20000 in
theorem ax_k_11_80 : ax_okM 11 ax_m_11_80 = true := by decide +kernel
set_option maxRecDepth 20000 in
theorem ax_k_11_81 : ax_okM 11 ax_m_11_81 = true := by decide +kernel
set_option maxRecDepth 20000 in
theorem ax_k_11_82 : ax_okM 11 ax_m_11_82 = true := by decide +kernel
set_option maxRecDepth 20000 in
theorem ax_k_11_83 : ax_okM 11 ax_m_11_83 = true := by decide +kernel
set_option maxRecDepth 20000 in
theorem ax_k_11_84 : ax_okM 11 ax_m_11_84 = true := by decide +kernel
set_option maxRecDepth 20000 in
theorem ax_k_11_85 : ax_okM 11 ax_m_11_85 = true := by decide +kernel
set_option maxRecDepth 20000 in
theorem ax_k_11_86 : ax_okM 11 ax_m_11_86 = true := by decide +kernel
set_option maxRecDepth 20000 in
theorem ax_k_11_87 : ax_okM 11 ax_m_11_87 = true := by decide +kernel
set_option maxRecDepth 20000 in
theorem ax_k_11_88 : ax_okM 11 ax_m_11_88 = true := by decide +kernel
set_option maxRecDepth 20000 in
theorem ax_k_11_89 : ax_okM 11 ax_m_11_89 = true := by decide +kernel
set_option maxRecDepth 20000 in
theorem ax_k_11_90 : ax_okM 11 ax_m_11_90 = true := by decide +kernel
set_option maxRecDepth 20000 in
theorem ax_k_11_91 : ax_okM 11 ax_m_11_91 = true := by decide +kernel
set_option maxRecDepth 20000 in
theorem ax_k_11_92 : ax_okM 11 ax_m_11_92 = true := by decide +kernel
set_option maxRecDepth 20000 in
theorem ax_k_11_93 : ax_okM 11 ax_m_11_93 = true := by decide +kernel
set_option maxRecDepth 20000 in
theorem ax_k_11_94 : ax_okM 11 ax_m_11_94 = true := by decide +kernel
set_option maxRecDepth 20000 in
theorem ax_k_11_95 : ax_okM 11 ax_m_11_95 = true := by decide +kernel
set_option maxRecDepth 20000 in
theorem ax_k_11_96 : ax_okM 11 ax_m_11_96 = true := by decide +kernel
set_option maxRecDepth 20000 in
theorem ax_k_11_97 : ax_okM 11 ax_m_11_97 = true := by decide +kernel
set_option maxRecDepth 20000 in
theorem ax_k_11_98 : ax_okM 11 ax_m_11_98 = true := by decide +kernel
set_option maxRecDepth 20000 in
theorem ax_k_11_99 : ax_okM 11 ax_m_11_99 = true := by decide +kernel
set_option maxRecDepth 20000 in
theorem ax_k_11_100 : ax_okM 11 ax_m_11_100 = true := by decide +kernel
set_option maxRecDepth 20000 in
theorem ax_k_11_101 : ax_okM 11 ax_m_11_101 = true := by decide +kernel
set_option maxRecDepth 20000 in
theorem ax_k_11_102 : ax_okM 11 ax_m_11_102 = true := by decide +kernel
set_option maxRecDepth 20000 in
theorem ax_k_11_103 : ax_okM 11 ax_m_11_103 = true := by decide +kernel
set_option maxRecDepth 20000 in
theorem ax_k_11_104 : ax_okM 11 ax_m_11_104 = true := by decide +kernel
set_option maxRecDepth 20000 in
theorem ax_k_11_105 : ax_okM 11 ax_m_11_105 = true := by decide +kernel
set_option maxRecDepth 20000 in
theorem ax_k_11_106 : ax_okM 11 ax_m_11_106 = true := by decide +kernel
set_option maxRecDepth 20000 in
theorem ax_k_11_107 : ax_okM 11 ax_m_11_107 = true := by decide +kernel
set_option maxRecDepth 20000 in
theorem ax_k_11_108 : ax_okM 11 ax_m_11_108 = true := by decide +kernel
set_option maxRecDepth 20000 in
theorem ax_k_11_109 : ax_okM 11 ax_m_11_109 = true := by decide +kernel
set_option maxRecDepth 20000 in
theorem ax_k_13_0 : ax_okM 13 ax_m_13_0 = true := by decide +kernel
set_option maxRecDepth 20000 in
theorem ax_k_13_1 : ax_okM 13 ax_m_13_1 = true := by decide +kernel
set_option maxRecDepth 20000 in
theorem ax_k_13_2 : ax_okM 13 ax_m_13_2 = true := by decide +kernel
set_option maxRecDepth 20000 in
theorem ax_k_14_0 : ax_okM 14 ax_m_14_0 = true := by decide +kernel
set_option maxRecDepth 20000 in
theorem ax_k_15_0 : ax_okM 15 ax_m_15_0 = true := by decide +kernel
theorem ax_kc_0 : ∀ m ∈ ax_c_0, ax_okM 0 m = true := List.forall_mem_cons.mpr ⟨ax_k_0_0, List.forall_mem_cons.mpr ⟨ax_k_0_1, List.forall_mem_cons.mpr ⟨ax_k_0_2, List.forall_mem_cons.mpr ⟨ax_k_0_3, List.forall_mem_cons.mpr ⟨ax_k_0_4, List.forall_mem_cons.mpr ⟨ax_k_0_5, List.forall_mem_cons.mpr ⟨ax_k_0_6, List.forall_mem_cons.mpr ⟨ax_k_0_7, List.forall_mem_cons.mpr ⟨ax_k_0_8, List.forall_mem_cons.mpr ⟨ax_k_0_9, List.forall_mem_cons.mpr ⟨ax_k_0_10, List.forall_mem_cons.mpr ⟨ax_k_0_11, List.forall_mem_cons.mpr ⟨ax_k_0_12, List.forall_mem_cons.mpr ⟨ax_k_0_13, List.forall_mem_cons.mpr ⟨ax_k_0_14, List.forall_mem_cons.mpr ⟨ax_k_0_15, List.forall_mem_cons.mpr ⟨ax_k_0_16, List.forall_mem_cons.mpr ⟨ax_k_0_17, List.forall_mem_cons.mpr ⟨ax_k_0_18, List.forall_mem_cons.mpr ⟨ax_k_0_19, List.forall_mem_cons.mpr ⟨ax_k_0_20, List.forall_mem_cons.mpr ⟨ax_k_0_21, List.forall_mem_cons.mpr ⟨ax_k_0_22, List.forall_mem_cons.mpr ⟨ax_k_0_23, List.forall_mem_cons.mpr ⟨ax_k_0_24, List.forall_mem_cons.mpr ⟨ax_k_0_25, List.forall_mem_cons.mpr ⟨ax_k_0_26, fun _ h => absurd h List.not_mem_nil⟩⟩⟩⟩⟩⟩⟩⟩⟩⟩⟩⟩⟩⟩⟩⟩⟩⟩⟩⟩⟩⟩⟩⟩⟩⟩⟩
theorem ax_kc_1 : ∀ m ∈ ax_c_1, ax_okM 1 m = true := List.forall_mem_cons.mpr ⟨ax_k_1_0, List.forall_mem_cons.mpr ⟨ax_k_1_1, List.forall_mem_cons.mpr ⟨ax_k_1_2, List.forall_mem_cons.mpr ⟨ax_k_1_3, List.forall_mem_cons.mpr ⟨ax_k_1_4, List.forall_mem_cons.mpr ⟨ax_k_1_5, List.forall_mem_cons.mpr ⟨ax_k_1_6, List.forall_mem_cons.mpr ⟨ax_k_1_7, List.forall_mem_cons.mpr ⟨ax_k_1_8, List.forall_mem_cons.mpr ⟨ax_k_1_9, List.forall_mem_cons.mpr ⟨ax_k_1_10, fun _ h => absurd h List.not_mem_nil⟩⟩⟩⟩⟩⟩⟩⟩⟩⟩⟩
theorem ax_kc_2 : ∀ m ∈ ax_c_2, ax_okM 2 m = true := List.forall_mem_cons.mpr ⟨ax_k_2_0, List.forall_mem_cons.mpr ⟨ax_k_2_1, List.forall_mem_cons.mpr ⟨ax_k_2_2, List.forall_mem_cons.mpr ⟨ax_k_2_3, List.forall_mem_cons.mpr ⟨ax_k_2_4, fun _ h => absurd h List.not_mem_nil⟩⟩⟩⟩⟩
theorem ax_kc_3 : ∀ m ∈ ax_c_3, ax_okM 3 m = true := List.forall_mem_cons.mpr ⟨ax_k_3_0, List.forall_mem_cons.mpr ⟨ax_k_3_1, List.forall_mem_cons.mpr ⟨ax_k_3_2, List.forall_mem_cons.mpr ⟨ax_k_3_3, List.forall_mem_cons.mpr ⟨ax_k_3_4, fun _ h => absurd h List.not_mem_nil⟩⟩⟩⟩⟩
theorem ax_kc_4 : ∀ m ∈ ax_c_4, ax_okM 4 m = true := List.forall_mem_cons.mpr ⟨ax_k_4_0, List.forall_mem_cons.mpr ⟨ax_k_4_1, List.forall_mem_cons.mpr ⟨ax_k_4_2, List.forall_mem_cons.mpr ⟨ax_k_4_3, List.forall_mem_cons.mpr ⟨ax_k_4_4, List.forall_mem_cons.mpr ⟨ax_k_4_5, fun _ h => absurd h List.not_mem_nil⟩⟩⟩⟩⟩⟩
theorem ax_kc_5 : ∀ m ∈ ax_c_5, ax_okM 5 m = true := List.forall_mem_cons.mpr ⟨ax_k_5_0, List.forall_mem_cons.mpr ⟨ax_k_5_1, List.forall_mem_cons.mpr ⟨ax_k_5_2, List.forall_mem_cons.mpr ⟨ax_k_5_3, List.forall_mem_cons.mpr ⟨ax_k_5_4, List.forall_mem_cons.mpr ⟨ax_k_5_5, List.forall_mem_cons.mpr ⟨ax_k_5_6, List.forall_mem_cons.mpr ⟨ax_k_5_7, List.forall_mem_cons.mpr ⟨ax_k_5_8, fun _ h => absurd h List.not_mem_nil⟩⟩⟩⟩⟩⟩⟩⟩⟩
theorem ax_kc_6 : ∀ m ∈ ax_c_6, ax_okM 6 m = true := List.forall_mem_cons.mpr ⟨ax_k_6_0, List.forall_mem_cons.mpr ⟨ax_k_6_1, List.forall_mem_cons.mpr ⟨ax_k_6_2, List.forall_mem_cons.mpr ⟨ax_k_6_3, List.forall_mem_cons.mpr ⟨ax_k_6_4, List.forall_mem_cons.mpr ⟨ax_k_6_5, List.forall_mem_cons.mpr ⟨ax_k_6_6, List.forall_mem_cons.mpr ⟨ax_k_6_7, List.forall_mem_cons.mpr ⟨ax_k_6_8, List.forall_mem_cons.mpr ⟨ax_k_6_9, List.forall_mem_cons.mpr ⟨ax_k_6_10, List.forall_mem_cons.mpr ⟨ax_k_6_11, List.forall_mem_cons.mpr ⟨ax_k_6_12, List.forall_mem_cons.mpr ⟨ax_k_6_13, List.forall_mem_cons.mpr ⟨ax_k_6_14, List.forall_mem_cons.mpr ⟨ax_k_6_15, List.forall_mem_cons.mpr ⟨ax_k_6_16, List.forall_mem_cons.mpr ⟨ax_k_6_17, List.forall_mem_cons.mpr ⟨ax_k_6_18, fun _ h => absurd h List.not_mem_nil⟩⟩⟩⟩⟩⟩⟩⟩⟩⟩⟩⟩⟩⟩⟩⟩⟩⟩⟩
theorem ax_kc_7 : ∀ m ∈ ax_c_7, ax_okM 7 m = true := List.forall_mem_cons.mpr ⟨ax_k_7_0, List.forall_mem_cons.mpr ⟨ax_k_7_1, List.forall_mem_cons.mpr ⟨ax_k_7_2, fun _ h => absurd h List.not_mem_nil⟩⟩⟩
theorem ax_kc_8 : ∀ m ∈ ax_c_8, ax_okM 8 m = true := List.forall_mem_cons.mpr ⟨ax_k_8_0, List.forall_mem_cons.mpr ⟨ax_k_8_1, List.forall_mem_cons.mpr ⟨ax_k_8_2, List.forall_mem_cons.mpr ⟨ax_k_8_3, List.forall_mem_cons.mpr ⟨ax_k_8_4, List.forall_mem_cons.mpr ⟨ax_k_8_5, List.forall_mem_cons.mpr ⟨ax_k_8_6, List.forall_mem_cons.mpr ⟨ax_k_8_7, List.forall_mem_cons.mpr ⟨ax_k_8_8, List.forall_mem_cons.mpr ⟨ax_k_8_9, List.forall_mem_cons.mpr ⟨ax_k_8_10, List.forall_mem_cons.mpr ⟨ax_k_8_11, List.forall_mem_cons.mpr ⟨ax_k_8_12, List.forall_mem_cons.mpr ⟨ax_k_8_13, List.forall_mem_cons.mpr ⟨ax_k_8_14, List.forall_mem_cons.mpr ⟨ax_k_8_15, List.forall_mem_cons.mpr ⟨ax_k_8_16, List.forall_mem_cons.mpr ⟨ax_k_8_17, List.forall_mem_cons.mpr ⟨ax_k_8_18, List.forall_mem_cons.mpr ⟨ax_k_8_19, List.forall_mem_cons.mpr ⟨ax_k_8_20, List.forall_mem_cons.mpr ⟨ax_k_8_21, List.forall_mem_cons.mpr ⟨ax_k_8_22, List.forall_mem_cons.mpr ⟨ax_k_8_23, List.forall_mem_cons.mpr ⟨ax_k_8_24, List.forall_mem_cons.mpr ⟨ax_k_8_25, List.forall_mem_cons.mpr ⟨ax_k_8_26, List.forall_mem_cons.mpr ⟨ax_k_8_27, List.forall_mem_cons.mpr ⟨ax_k_8_28, fun _ h => absurd h List.not_mem_nil⟩⟩⟩⟩⟩⟩⟩⟩⟩⟩⟩⟩⟩⟩⟩⟩⟩⟩⟩⟩⟩⟩⟩⟩⟩⟩⟩⟩⟩
theorem ax_kc_9 : ∀ m ∈ ax_c_9, ax_okM 9 m = true := List.forall_mem_cons.mpr ⟨ax_k_9_0, List.forall_mem_cons.mpr ⟨ax_k_9_1, List.forall_mem_cons.mpr ⟨ax_k_9_2, List.forall_mem_cons.mpr ⟨ax_k_9_3, List.forall_mem_cons.mpr ⟨ax_k_9_4, List.forall_mem_cons.mpr ⟨ax_k_9_5, List.forall_mem_cons.mpr ⟨ax_k_9_6, List.forall_mem_cons.mpr ⟨ax_k_9_7, List.forall_mem_cons.mpr ⟨ax_k_9_8, List.forall_mem_cons.mpr ⟨ax_k_9_9, List.forall_mem_cons.mpr ⟨ax_k_9_10, List.forall_mem_cons.mpr ⟨ax_k_9_11, List.forall_mem_cons.mpr ⟨ax_k_9_12, List.forall_mem_cons.mpr ⟨ax_k_9_13, List.forall_mem_cons.mpr ⟨ax_k_9_14, fun _ h => absurd h List.not_mem_nil⟩⟩⟩⟩⟩⟩⟩⟩⟩⟩⟩⟩⟩⟩⟩
theorem ax_kc_10 : ∀ m ∈ ax_c_10, ax_okM 10 m = true := List.forall_mem_cons.mpr ⟨ax_k_10_0, List.forall_mem_cons.mpr ⟨ax_k_10_1, List.forall_mem_cons.mpr ⟨ax_k_10_2, List.forall_mem_cons.mpr ⟨ax_k_10_3, List.forall_mem_cons.mpr ⟨ax_k_10_4, List.forall_mem_cons.mpr ⟨ax_k_10_5, List.forall_mem_cons.mpr ⟨ax_k_10_6, List.forall_mem_cons.mpr ⟨ax_k_10_7, List.forall_mem_cons.mpr ⟨ax_k_10_8, List.forall_mem_cons.mpr ⟨ax_k_10_9, List.forall_mem_cons.mpr ⟨ax_k_10_10, List.forall_mem_cons.mpr ⟨ax_k_10_11, List.forall_mem_cons.mpr ⟨ax_k_10_12, List.forall_mem_cons.mpr ⟨ax_k_10_13, List.forall_mem_cons.mpr ⟨ax_k_10_14, List.forall_mem_cons.mpr ⟨ax_k_10_15, List.forall_mem_cons.mpr ⟨ax_k_10_16, List.forall_mem_cons.mpr ⟨ax_k_10_17, List.forall_mem_cons.mpr ⟨ax_k_10_18, List.forall_mem_cons.mpr ⟨ax_k_10_19, List.forall_mem_cons.mpr ⟨ax_k_10_20, List.forall_mem_cons.mpr ⟨ax_k_10_21, List.forall_mem_cons.mpr ⟨ax_k_10_22, List.forall_mem_cons.mpr ⟨ax_k_10_23, List.forall_mem_cons.mpr ⟨ax_k_10_24, List.forall_mem_cons.mpr ⟨ax_k_10_25, List.forall_mem_cons.mpr ⟨ax_k_10_26, List.forall_mem_cons.mpr ⟨ax_k_10_27, List.forall_mem_cons.mpr ⟨ax_k_10_28, List.forall_mem_cons.mpr ⟨ax_k_10_29, List.forall_mem_cons.mpr ⟨ax_k_10_30, List.forall_mem_cons.mpr ⟨ax_k_10_31, List.forall_mem_cons.mpr ⟨ax_k_10_32, List.forall_mem_cons.mpr ⟨ax_k_10_33, List.forall_mem_cons.mpr ⟨ax_k_10_34, List.forall_mem_cons.mpr ⟨ax_k_10_35, List.forall_mem_cons.mpr ⟨ax_k_10_36, List.forall_mem_cons.mpr ⟨ax_k_10_37, List.forall_mem_cons.mpr ⟨ax_k_10_38, List.forall_mem_cons.mpr ⟨ax_k_10_39, List.forall_mem_cons.mpr ⟨ax_k_10_40, List.forall_mem_cons.mpr ⟨ax_k_10_41, List.forall_mem_cons.mpr ⟨ax_k_10_42, fun _ h => absurd h List.not_mem_nil⟩⟩⟩⟩⟩⟩⟩⟩⟩⟩⟩⟩⟩⟩⟩⟩⟩⟩⟩⟩⟩⟩⟩⟩⟩⟩⟩⟩⟩⟩⟩⟩⟩⟩⟩⟩⟩⟩⟩⟩⟩⟩⟩
theorem ax_kc_11 : ∀ m ∈ ax_c_11, ax_okM 11 m = true := List.forall_mem_cons.mpr ⟨ax_k_11_0, List.forall_mem_cons.mpr ⟨ax_k_11_1, List.forall_mem_cons.mpr ⟨ax_k_11_2, List.forall_mem_cons.mpr ⟨ax_k_11_3, List.forall_mem_cons.mpr ⟨ax_k_11_4, List.forall_mem_cons.mpr ⟨ax_k_11_5, List.forall_mem_cons.mpr ⟨ax_k_11_6, List.forall_mem_cons.mpr ⟨ax_k_11_7, List.forall_mem_cons.mpr ⟨ax_k_11_8, List.forall_mem_cons.mpr ⟨ax_k_11_9, List.forall_mem_cons.mpr ⟨ax_k_11_10, List.forall_mem_cons.mpr ⟨ax_k_11_11, List.forall_mem_cons.mpr ⟨ax_k_11_12, List.forall_mem_cons.mpr ⟨ax_k_11_13, List.forall_mem_cons.mpr ⟨ax_k_11_14, List.forall_mem_cons.mpr ⟨ax_k_11_15, List.forall_mem_cons.mpr ⟨ax_k_11_16, List.forall_mem_cons.mpr ⟨ax_k_11_17, List.forall_mem_cons.mpr ⟨ax_k_11_18, List.forall_mem_cons.mpr ⟨ax_k_11_19, List.forall_mem_cons.mpr ⟨ax_k_11_20, List.forall_mem_cons.mpr ⟨ax_k_11_21, List.forall_mem_cons.mpr ⟨ax_k_11_22, List.forall_mem_cons.mpr ⟨ax_k_11_23, List.forall_mem_cons.mpr ⟨ax_k_11_24, List.forall_mem_cons.mpr ⟨ax_k_11_25, List.forall_mem_cons.mpr ⟨ax_k_11_26, List.forall_mem_cons.mpr ⟨ax_k_11_27, List.forall_mem_cons.mpr ⟨ax_k_11_28, List.forall_mem_cons.mpr ⟨ax_k_11_29, List.forall_mem_cons.mpr ⟨ax_k_11_30, List.forall_mem_cons.mpr ⟨ax_k_11_31, List.forall_mem_cons.mpr ⟨ax_k_11_32, List.forall_mem_cons.mpr ⟨ax_k_11_33, List.forall_mem_cons.mpr ⟨ax_k_11_34, List.forall_mem_cons.mpr ⟨ax_k_11_35, List.forall_mem_cons.mpr ⟨ax_k_11_36, List.forall_mem_cons.mpr ⟨ax_k_11_37, List.forall_mem_cons.mpr ⟨ax_k_11_38, List.forall_mem_cons.mpr ⟨ax_k_11_39, List.forall_mem_cons.mpr ⟨ax_k_11_40, List.forall_mem_cons.mpr ⟨ax_k_11_41, List.forall_mem_cons.mpr ⟨ax_k_11_42, List.forall_mem_cons.mpr ⟨ax_k_11_43, List.forall_mem_cons.mpr ⟨ax_k_11_44, List.forall_mem_cons.mpr ⟨ax_k_11_45, List.forall_mem_cons.mpr ⟨ax_k_11_46, List.forall_mem_cons.mpr ⟨ax_k_11_47, List.forall_mem_cons.mpr ⟨ax_k_11_48, List.forall_mem_cons.mpr ⟨ax_k_11_49, List.forall_mem_cons.mpr ⟨ax_k_11_50, List.forall_mem_cons.mpr ⟨ax_k_11_51, List.forall_mem_cons.mpr ⟨ax_k_11_52, List.forall_mem_cons.mpr ⟨ax_k_11_53, List.forall_mem_cons.mpr ⟨ax_k_11_54, List.forall_mem_cons.mpr ⟨ax_k_11_55, List.forall_mem_cons.mpr ⟨ax_k_11_56, List.forall_mem_cons.mpr ⟨ax_k_11_57, List.forall_mem_cons.mpr ⟨ax_k_11_58, List.forall_mem_cons.mpr ⟨ax_k_11_59, List.forall_mem_cons.mpr ⟨ax_k_11_60, List.forall_mem_cons.mpr ⟨ax_k_11_61, List.forall_mem_cons.mpr ⟨ax_k_11_62, List.forall_mem_cons.mpr ⟨ax_k_11_63, List.forall_mem_cons.mpr ⟨ax_k_11_64, List.forall_mem_cons.mpr ⟨ax_k_11_65, List.forall_mem_cons.mpr ⟨ax_k_11_66, List.forall_mem_cons.mpr ⟨ax_k_11_67, List.forall_mem_cons.mpr ⟨ax_k_11_68, List.forall_mem_cons.mpr ⟨ax_k_11_69, List.forall_mem_cons.mpr ⟨ax_k_11_70, List.forall_mem_cons.mpr ⟨ax_k_11_71, List.forall_mem_cons.mpr ⟨ax_k_11_72, List.forall_mem_cons.mpr ⟨ax_k_11_73, List.forall_mem_cons.mpr ⟨ax_k_11_74, List.forall_mem_cons.mpr ⟨ax_k_11_75, List.forall_mem_cons.mpr ⟨ax_k_11_76, List.forall_mem_cons.mpr ⟨ax_k_11_77, List.forall_mem_cons.mpr ⟨ax_k_11_78, List.forall_mem_cons.mpr ⟨ax_k_11_79, List.forall_mem_cons.mpr ⟨ax_k_11_80, List.forall_mem_cons.mpr ⟨ax_k_11_81, List.forall_mem_cons.mpr ⟨ax_k_11_82, List.forall_mem_cons.mpr ⟨ax_k_11_83, List.forall_mem_cons.mpr ⟨ax_k_11_84, List.forall_mem_cons.mpr ⟨ax_k_11_85, List.forall_mem_cons.mpr ⟨ax_k_11_86, List.forall_mem_cons.mpr ⟨ax_k_11_87, List.forall_mem_cons.mpr ⟨ax_k_11_88, List.forall_mem_cons.mpr ⟨ax_k_11_89, List.forall_mem_cons.mpr ⟨ax_k_11_90, List.forall_mem_cons.mpr ⟨ax_k_11_91, List.forall_mem_cons.mpr ⟨ax_k_11_92, List.forall_mem_cons.mpr ⟨ax_k_11_93, List.forall_mem_cons.mpr ⟨ax_k_11_94, List.forall_mem_cons.mpr ⟨ax_k_11_95, List.forall_mem_cons.mpr ⟨ax_k_11_96, List.forall_mem_cons.mpr ⟨ax_k_11_97, List.forall_mem_cons.mpr ⟨ax_k_11_98, List.forall_mem_cons.mpr ⟨ax_k_11_99, List.forall_mem_cons.mpr ⟨ax_k_11_100, List.forall_mem_cons.mpr ⟨ax_k_11_101, List.forall_mem_cons.mpr ⟨ax_k_11_102, List.forall_mem_cons.mpr ⟨ax_k_11_103, List.forall_mem_cons.mpr ⟨ax_k_11_104, List.forall_mem_cons.mpr ⟨ax_k_11_105, List.forall_mem_cons.mpr ⟨ax_k_11_106, List.forall_mem_cons.mpr ⟨ax_k_11_107, List.forall_mem_cons.mpr ⟨ax_k_11_108, List.forall_mem_cons.mpr ⟨ax_k_11_109, fun _ h => absurd h List.not_mem_nil⟩⟩⟩⟩⟩⟩⟩⟩⟩⟩⟩⟩⟩⟩⟩⟩⟩⟩⟩⟩⟩⟩⟩⟩⟩⟩⟩⟩⟩⟩⟩⟩⟩⟩⟩⟩⟩⟩⟩⟩⟩⟩⟩⟩⟩⟩⟩⟩⟩⟩⟩⟩⟩⟩⟩⟩⟩⟩⟩⟩⟩⟩⟩⟩⟩⟩⟩⟩⟩⟩⟩⟩⟩⟩⟩⟩⟩⟩⟩⟩⟩⟩⟩⟩⟩⟩⟩⟩⟩⟩⟩⟩⟩⟩⟩⟩⟩⟩⟩⟩⟩⟩⟩⟩⟩⟩⟩⟩⟩⟩
theorem ax_kc_13 : ∀ m ∈ ax_c_13, ax_okM 13 m = true := List.forall_mem_cons.mpr ⟨ax_k_13_0, List.forall_mem_cons.mpr ⟨ax_k_13_1, List.forall_mem_cons.mpr ⟨ax_k_13_2, fun _ h => absurd h List.not_mem_nil⟩⟩⟩
theorem ax_kc_14 : ∀ m ∈ ax_c_14, ax_okM 14 m = true := List.forall_mem_cons.mpr ⟨ax_k_14_0, fun _ h => absurd h List.not_mem_nil⟩
theorem ax_kc_15 : ∀ m ∈ ax_c_15, ax_okM 15 m = true := List.forall_mem_cons.mpr ⟨ax_k_15_0, fun _ h => absurd h List.not_mem_nil⟩
