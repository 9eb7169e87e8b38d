/-! the classes, their fields; the methods as lists of instructions, by program -/
abbrev ax_B : Type := List (Nat × List (Nat × Instr))
/-- name, bytes, locals, what it answers, kind (0 static, 1 virtual, 2 constructor), blocks -/
abbrev ax_M : Type := MethodName × ByteArray × Nat × Option FieldType × Nat × ax_B
def ax_T0 : u_T := fun k => match k with
  | 0 => ("ShakingCourt$Bowl", "cells", "I", false)
  | 1 => ("ShakingCourt$Bowl", "courtiers", "I", false)
  | 2 => ("ShakingCourt$Bowl", "time", "I", false)
  | 3 => ("ShakingCourt$Bowl", "cracks", "I", false)
  | 4 => ("ShakingCourt$Bowl", "shakes", "[I", true)
  | 5 => ("ShakingCourt$Bowl", "places", "[I", true)
  | _ => ("ShakingCourt$Bowl", "done", "[I", true)
def ax_t0 : Nat → FieldType := fun k => match k with
  | 0 => .int
  | 1 => .int
  | 2 => .int
  | 3 => .int
  | 4 => .array .int
  | 5 => .array .int
  | _ => .array .int
def ax_T1 : u_T := fun k => match k with
  | 0 => ("ShakingCourt$Court", "cells", "I", false)
  | 1 => ("ShakingCourt$Court", "courtiers", "I", false)
  | 2 => ("ShakingCourt$Court", "kinds", "[I", true)
  | 3 => ("ShakingCourt$Court", "places", "[I", true)
  | 4 => ("ShakingCourt$Court", "hearts", "[I", true)
  | 5 => ("ShakingCourt$Court", "names", "[J", true)
  | 6 => ("ShakingCourt$Court", "heats", "[I", true)
  | 7 => ("ShakingCourt$Court", "heatCount", "I", false)
  | 8 => ("ShakingCourt$Court", "code", "[I", true)
  | 9 => ("ShakingCourt$Court", "fades", "LShakingCourt$Law;", true)
  | 10 => ("ShakingCourt$Court", "reads", "LShakingCourt$Law;", true)
  | _ => ("ShakingCourt$Court", "toldOnce", "I", false)
def ax_t1 : Nat → FieldType := fun k => match k with
  | 0 => .int
  | 1 => .int
  | 2 => .array .int
  | 3 => .array .int
  | 4 => .array .int
  | 5 => .array .long
  | 6 => .array .int
  | 7 => .int
  | 8 => .array .int
  | 9 => .object "ShakingCourt$Law"
  | 10 => .object "ShakingCourt$Law"
  | _ => .int
def ax_T2 : u_T := fun k => match k with
  | 0 => ("ShakingCourt$Felt", "size", "I", false)
  | 1 => ("ShakingCourt$Felt", "cells", "[I", true)
  | 2 => ("ShakingCourt$Felt", "beats", "[I", true)
  | _ => ("ShakingCourt$Felt", "shakes", "[I", true)
def ax_t2 : Nat → FieldType := fun k => match k with
  | 0 => .int
  | 1 => .array .int
  | 2 => .array .int
  | _ => .array .int
def ax_T3 : u_T := fun k => match k with
  | 0 => ("ShakingCourt$Law", "code", "[I", true)
  | 1 => ("ShakingCourt$Law", "stack", "[I", true)
  | 2 => ("ShakingCourt$Law", "facts", "[I", true)
  | 3 => ("ShakingCourt$Law", "from", "I", false)
  | _ => ("ShakingCourt$Law", "end", "I", false)
def ax_t3 : Nat → FieldType := fun k => match k with
  | 0 => .array .int
  | 1 => .array .int
  | 2 => .array .int
  | 3 => .int
  | _ => .int
def ax_T4 : u_T := fun k => match k with
  | 0 => ("ShakingCourt$Past", "steps", "[LShakingCourt$Bowl;", true)
  | 1 => ("ShakingCourt$Past", "next", "I", false)
  | 2 => ("ShakingCourt$Past", "kept", "I", false)
  | 3 => ("ShakingCourt$Past", "markBowls", "[LShakingCourt$Bowl;", true)
  | 4 => ("ShakingCourt$Past", "markFelts", "[LShakingCourt$Felt;", true)
  | _ => ("ShakingCourt$Past", "laid", "I", false)
def ax_t4 : Nat → FieldType := fun k => match k with
  | 0 => .array (.object "ShakingCourt$Bowl")
  | 1 => .int
  | 2 => .int
  | 3 => .array (.object "ShakingCourt$Bowl")
  | 4 => .array (.object "ShakingCourt$Felt")
  | _ => .int
def ax_T5 : u_T := fun k => match k with
  | 0 => ("ShakingCourt$Play", "told", "LShakingCourt$Court;", true)
  | 1 => ("ShakingCourt$Play", "ahead", "[I", true)
  | _ => ("ShakingCourt$Play", "faded", "[I", true)
def ax_t5 : Nat → FieldType := fun k => match k with
  | 0 => .object "ShakingCourt$Court"
  | 1 => .array .int
  | _ => .array .int
def ax_T6 : u_T := fun k => match k with
  | 0 => ("ShakingCourt$Reader", "tokens", "LShakingCourt$Tokens;", true)
  | 1 => ("ShakingCourt$Reader", "told", "LShakingCourt$Court;", true)
  | 2 => ("ShakingCourt$Reader", "draft", "LShakingCourt$Court;", true)
  | 3 => ("ShakingCourt$Reader", "draftLines", "LShakingCourt$Reign;", true)
  | 4 => ("ShakingCourt$Reader", "law", "LShakingCourt$Law;", false)
  | _ => ("ShakingCourt$Reader", "heartMayStand", "Z", false)
def ax_t6 : Nat → FieldType := fun k => match k with
  | 0 => .object "ShakingCourt$Tokens"
  | 1 => .object "ShakingCourt$Court"
  | 2 => .object "ShakingCourt$Court"
  | 3 => .object "ShakingCourt$Reign"
  | 4 => .object "ShakingCourt$Law"
  | _ => .boolean
def ax_T7 : u_T := fun k => match k with
  | 0 => ("ShakingCourt$Reign", "size", "I", false)
  | 1 => ("ShakingCourt$Reign", "acts", "[I", true)
  | 2 => ("ShakingCourt$Reign", "firsts", "[I", true)
  | _ => ("ShakingCourt$Reign", "seconds", "[I", true)
def ax_t7 : Nat → FieldType := fun k => match k with
  | 0 => .int
  | 1 => .array .int
  | 2 => .array .int
  | _ => .array .int
def ax_T8 : u_T := fun k => match k with
  | 0 => ("ShakingCourt$Seer", "play", "LShakingCourt$Play;", true)
  | 1 => ("ShakingCourt$Seer", "now", "LShakingCourt$Bowl;", true)
  | 2 => ("ShakingCourt$Seer", "felt", "LShakingCourt$Felt;", true)
  | 3 => ("ShakingCourt$Seer", "trial", "LShakingCourt$Bowl;", true)
  | 4 => ("ShakingCourt$Seer", "untouched", "LShakingCourt$Bowl;", true)
  | 5 => ("ShakingCourt$Seer", "tally", "[I", true)
  | _ => ("ShakingCourt$Seer", "drawn", "J", false)
def ax_t8 : Nat → FieldType := fun k => match k with
  | 0 => .object "ShakingCourt$Play"
  | 1 => .object "ShakingCourt$Bowl"
  | 2 => .object "ShakingCourt$Felt"
  | 3 => .object "ShakingCourt$Bowl"
  | 4 => .object "ShakingCourt$Bowl"
  | 5 => .array .int
  | _ => .long
def ax_T9 : u_T := fun k => match k with
  | 0 => ("ShakingCourt$Tokens", "signs", "[B", true)
  | 1 => ("ShakingCourt$Tokens", "length", "I", false)
  | 2 => ("ShakingCourt$Tokens", "kind", "I", false)
  | 3 => ("ShakingCourt$Tokens", "number", "I", false)
  | 4 => ("ShakingCourt$Tokens", "name", "J", false)
  | 5 => ("ShakingCourt$Tokens", "taken", "I", false)
  | 6 => ("ShakingCourt$Tokens", "fault", "I", false)
  | 7 => ("ShakingCourt$Tokens", "place", "I", false)
  | _ => ("ShakingCourt$Tokens", "next", "I", false)
def ax_t9 : Nat → FieldType := fun k => match k with
  | 0 => .array .byte
  | 1 => .int
  | 2 => .int
  | 3 => .int
  | 4 => .long
  | 5 => .int
  | 6 => .int
  | 7 => .int
  | _ => .int
def ax_T10 : u_T := fun k => match k with
  | 0 => ("ShakingCourt", "tokens", "LShakingCourt$Tokens;", true)
  | 1 => ("ShakingCourt", "reader", "LShakingCourt$Reader;", true)
  | 2 => ("ShakingCourt", "told", "LShakingCourt$Court;", true)
  | 3 => ("ShakingCourt", "lines", "LShakingCourt$Reign;", true)
  | 4 => ("ShakingCourt", "bowl", "LShakingCourt$Bowl;", true)
  | 5 => ("ShakingCourt", "felt", "LShakingCourt$Felt;", true)
  | 6 => ("ShakingCourt", "past", "LShakingCourt$Past;", true)
  | 7 => ("ShakingCourt", "play", "LShakingCourt$Play;", true)
  | _ => ("ShakingCourt", "seer", "LShakingCourt$Seer;", true)
def ax_t10 : Nat → FieldType := fun k => match k with
  | 0 => .object "ShakingCourt$Tokens"
  | 1 => .object "ShakingCourt$Reader"
  | 2 => .object "ShakingCourt$Court"
  | 3 => .object "ShakingCourt$Reign"
  | 4 => .object "ShakingCourt$Bowl"
  | 5 => .object "ShakingCourt$Felt"
  | 6 => .object "ShakingCourt$Past"
  | 7 => .object "ShakingCourt$Play"
  | _ => .object "ShakingCourt$Seer"
def ax_T11 : u_T := fun k => match k with
  | 0 => ("ShakingCourtModel", "thrown", "I", false)
  | 1 => ("ShakingCourtModel", "tape", "[I", true)
  | 2 => ("ShakingCourtModel", "taped", "I", false)
  | 3 => ("ShakingCourtModel", "size", "I", false)
  | 4 => ("ShakingCourtModel", "sort", "[I", true)
  | 5 => ("ShakingCourtModel", "place", "[I", true)
  | 6 => ("ShakingCourtModel", "value", "[J", true)
  | 7 => ("ShakingCourtModel", "at", "I", false)
  | 8 => ("ShakingCourtModel", "fault", "I", false)
  | 9 => ("ShakingCourtModel", "words", "[J", true)
  | 10 => ("ShakingCourtModel", "courts", "[I", true)
  | 11 => ("ShakingCourtModel", "op", "[I", true)
  | 12 => ("ShakingCourtModel", "arg", "[I", true)
  | 13 => ("ShakingCourtModel", "codes", "I", false)
  | 14 => ("ShakingCourtModel", "names", "[J", true)
  | 15 => ("ShakingCourtModel", "readNames", "[J", true)
  | 16 => ("ShakingCourtModel", "namesMany", "I", false)
  | 17 => ("ShakingCourtModel", "readMany", "I", false)
  | 18 => ("ShakingCourtModel", "once", "I", false)
  | 19 => ("ShakingCourtModel", "factsHere", "I", false)
  | 20 => ("ShakingCourtModel", "lines", "[I", true)
  | 21 => ("ShakingCourtModel", "facts", "[I", true)
  | 22 => ("ShakingCourtModel", "pile", "[I", true)
  | 23 => ("ShakingCourtModel", "state", "[I", true)
  | 24 => ("ShakingCourtModel", "undos", "I", false)
  | 25 => ("ShakingCourtModel", "isMarked", "[Z", true)
  | 26 => ("ShakingCourtModel", "waves", "[I", true)
  | 27 => ("ShakingCourtModel", "alikes", "[I", true)
  | _ => ("ShakingCourtModel", "g", "J", false)
def ax_t11 : Nat → FieldType := fun k => match k with
  | 0 => .int
  | 1 => .array .int
  | 2 => .int
  | 3 => .int
  | 4 => .array .int
  | 5 => .array .int
  | 6 => .array .long
  | 7 => .int
  | 8 => .int
  | 9 => .array .long
  | 10 => .array .int
  | 11 => .array .int
  | 12 => .array .int
  | 13 => .int
  | 14 => .array .long
  | 15 => .array .long
  | 16 => .int
  | 17 => .int
  | 18 => .int
  | 19 => .int
  | 20 => .array .int
  | 21 => .array .int
  | 22 => .array .int
  | 23 => .array .int
  | 24 => .int
  | 25 => .array .boolean
  | 26 => .array .int
  | 27 => .array .int
  | _ => .long
def ax_cl : List vw_C := [("ShakingCourt$Bowl", ax_T0, 7), ("ShakingCourt$Court", ax_T1, 12), ("ShakingCourt$Felt", ax_T2, 4), ("ShakingCourt$Law", ax_T3, 5), ("ShakingCourt$Past", ax_T4, 6), ("ShakingCourt$Play", ax_T5, 3), ("ShakingCourt$Reader", ax_T6, 6), ("ShakingCourt$Reign", ax_T7, 4), ("ShakingCourt$Seer", ax_T8, 7), ("ShakingCourt$Tokens", ax_T9, 9), ("ShakingCourt", ax_T10, 9), ("ShakingCourtModel", ax_T11, 29), ("java/util/NoSuchElementException", ax_T0, 0)]
def ax_ty : Nat → Nat → FieldType := fun c => match c with
  | 0 => ax_t0
  | 1 => ax_t1
  | 2 => ax_t2
  | 3 => ax_t3
  | 4 => ax_t4
  | 5 => ax_t5
  | 6 => ax_t6
  | 7 => ax_t7
  | 8 => ax_t8
  | 9 => ax_t9
  | 10 => ax_t10
  | _ => ax_t11
def ax_nm : Nat → String := fun c => match c with
  | 0 => "ShakingCourt$Bowl"
  | 1 => "ShakingCourt$Court"
  | 2 => "ShakingCourt$Felt"
  | 3 => "ShakingCourt$Law"
  | 4 => "ShakingCourt$Past"
  | 5 => "ShakingCourt$Play"
  | 6 => "ShakingCourt$Reader"
  | 7 => "ShakingCourt$Reign"
  | 8 => "ShakingCourt$Seer"
  | 9 => "ShakingCourt$Tokens"
  | 10 => "ShakingCourt"
  | 11 => "ShakingCourtModel"
  | 12 => "ShakingCourtLaw"
  | 13 => "java/lang/Math"
  | 14 => "java/lang/Integer"
  | _ => "java/util/Arrays"
def ax_m_0_0 : ax_M := (⟨"ShakingCourt$Bowl", "<init>", "()V"⟩, prog_2_method_1_code, 1, none, 2, [
  (0, [(1, .aload 0), (3, .invokedynamic 0), (1, .aload 0), (2, .iconst 12), (2, .newarray .int), (3, .putstatic 18), (1, .aload 0), (2, .iconst 6), (2, .newarray .int), (3, .putstatic 22), (1, .aload 0), (2, .iconst 6), (2, .newarray .int), (3, .putstatic 26), (1, .return_)])])
def ax_m_0_1 : ax_M := (⟨"ShakingCourt$Bowl", "begin", "(LShakingCourt$Court;)V"⟩, prog_2_method_2_code, 2, none, 1, [
  (0, [(1, .aload 0), (1, .aload 1), (3, .getfield 256), (3, .putfield 0), (1, .aload 0), (1, .aload 1), (3, .getfield 260), (3, .putfield 4), (1, .aload 0), (1, .iconst 0), (3, .putfield 8), (1, .aload 0), (1, .iconst 0), (3, .putfield 12), (1, .aload 0), (3, .getfield 18), (1, .iconst 0), (3, .invokeinterface 1920 8), (1, .aload 0), (3, .getfield 26), (1, .iconst 0), (3, .invokeinterface 1920 8), (1, .aload 1), (3, .getfield 270), (1, .iconst 0), (1, .aload 0), (3, .getfield 22), (1, .iconst 0), (2, .iconst 6), (3, .invokedynamic 1), (1, .return_)])])
def ax_m_0_2 : ax_M := (⟨"ShakingCourt$Bowl", "copy", "(LShakingCourt$Bowl;)V"⟩, prog_2_method_3_code, 2, none, 1, [
  (0, [(1, .aload 0), (1, .aload 1), (3, .getfield 0), (3, .putfield 0), (1, .aload 0), (1, .aload 1), (3, .getfield 4), (3, .putfield 4), (1, .aload 0), (1, .aload 1), (3, .getfield 8), (3, .putfield 8), (1, .aload 0), (1, .aload 1), (3, .getfield 12), (3, .putfield 12), (1, .aload 1), (3, .getfield 18), (1, .iconst 0), (1, .aload 0), (3, .getfield 18), (1, .iconst 0), (2, .iconst 12), (3, .invokedynamic 1), (1, .aload 1), (3, .getfield 22), (1, .iconst 0), (1, .aload 0), (3, .getfield 22), (1, .iconst 0), (2, .iconst 6), (3, .invokedynamic 1), (1, .aload 1), (3, .getfield 26), (1, .iconst 0), (1, .aload 0), (3, .getfield 26), (1, .iconst 0), (2, .iconst 6), (3, .invokedynamic 1), (1, .return_)])])
def ax_m_0_3 : ax_M := (⟨"ShakingCourt$Bowl", "isCell", "(I)Z"⟩, prog_2_method_4_code, 2, (some .boolean), 1, [
  (0, [(1, .iload 1), (1, .iconst 0), (1, .aload 0), (3, .getfield 0), (1, .iconst 1), (1, .isub), (3, .invokeinterface 1322 12), (1, .ireturn)])])
def ax_m_0_4 : ax_M := (⟨"ShakingCourt$Bowl", "isCracked", "(I)Z"⟩, prog_2_method_5_code, 2, (some .boolean), 1, [
  (0, [(1, .aload 0), (3, .getfield 12), (1, .iconst 1), (1, .iload 1), (1, .ishl), (1, .iand), (3, .ifCond .eq 15), (1, .iconst 1), (3, .goto 16)]),
  (15, [(1, .iconst 0)]),
  (16, [(1, .ireturn)])])
def ax_m_0_5 : ax_M := (⟨"ShakingCourt$Bowl", "isOpen", "(I)Z"⟩, prog_2_method_6_code, 2, (some .boolean), 1, [
  (0, [(1, .aload 0), (1, .iload 1), (3, .invokeinterface 3 9), (3, .ifCond .eq 20), (1, .aload 0), (1, .iload 1), (3, .invokeinterface 4 9), (3, .ifCond .ne 20), (1, .iconst 1), (3, .goto 21)]),
  (20, [(1, .iconst 0)]),
  (21, [(1, .ireturn)])])
def ax_m_0_6 : ax_M := (⟨"ShakingCourt$Bowl", "isCourtier", "(I)Z"⟩, prog_2_method_7_code, 2, (some .boolean), 1, [
  (0, [(1, .iload 1), (1, .iconst 0), (1, .aload 0), (3, .getfield 4), (1, .iconst 1), (1, .isub), (3, .invokeinterface 1322 12), (1, .ireturn)])])
def ax_m_0_7 : ax_M := (⟨"ShakingCourt$Bowl", "canBe", "(III)Z"⟩, prog_2_method_8_code, 4, (some .boolean), 1, [
  (0, [(1, .iload 1), (35, .tableswitch 75 7 11 #[36, 42, 36, 75, 48])]),
  (36, [(1, .aload 0), (1, .iload 2), (3, .invokeinterface 5 9), (1, .ireturn)]),
  (42, [(1, .aload 0), (1, .iload 2), (3, .invokeinterface 3 9), (1, .ireturn)]),
  (48, [(1, .aload 0), (1, .iload 2), (3, .invokeinterface 6 9), (3, .ifCond .eq 73), (1, .aload 0), (1, .iload 3), (3, .invokeinterface 6 9), (3, .ifCond .eq 73), (1, .iload 2), (1, .iload 3), (3, .if_icmp .eq 73), (1, .iconst 1), (3, .goto 74)]),
  (73, [(1, .iconst 0)]),
  (74, [(1, .ireturn)]),
  (75, [(1, .iconst 1), (1, .ireturn)])])
def ax_m_0_8 : ax_M := (⟨"ShakingCourt$Bowl", "perform", "(III)V"⟩, prog_2_method_9_code, 4, none, 1, [
  (0, [(1, .iload 1), (35, .tableswitch 77 7 11 #[36, 45, 53, 61, 68])]),
  (36, [(1, .aload 0), (1, .iload 2), (1, .iload 3), (3, .invokeinterface 9 13), (3, .goto 77)]),
  (45, [(1, .aload 0), (1, .iload 2), (3, .invokeinterface 10 9), (3, .goto 77)]),
  (53, [(1, .aload 0), (1, .iload 2), (3, .invokeinterface 11 9), (3, .goto 77)]),
  (61, [(1, .aload 0), (3, .invokeinterface 12 5), (3, .goto 77)]),
  (68, [(1, .aload 0), (1, .iload 2), (1, .iload 3), (3, .invokeinterface 13 13), (3, .goto 77)]),
  (77, [(1, .return_)])])
def ax_m_0_9 : ax_M := (⟨"ShakingCourt$Bowl", "push", "(II)V"⟩, prog_2_method_10_code, 3, none, 1, [
  (0, [(1, .aload 0), (3, .getfield 18), (1, .iload 1), (2, .iconst 99), (1, .aload 0), (3, .getfield 18), (1, .iload 1), (1, .iaload), (1, .iload 2), (1, .iadd), (3, .invokeinterface 1666 8), (1, .iastore), (1, .return_)])])
def ax_m_0_10 : ax_M := (⟨"ShakingCourt$Bowl", "soothe", "(I)V"⟩, prog_2_method_11_code, 2, none, 1, [
  (0, [(1, .aload 0), (3, .getfield 18), (1, .iload 1), (1, .iconst 0), (1, .aload 0), (3, .getfield 18), (1, .iload 1), (1, .iaload), (1, .iconst 3), (1, .isub), (3, .invokeinterface 1665 8), (1, .iastore), (1, .return_)])])
def ax_m_0_11 : ax_M := (⟨"ShakingCourt$Bowl", "crack", "(I)V"⟩, prog_2_method_12_code, 2, none, 1, [
  (0, [(1, .aload 0), (1, .dup), (3, .getfield 12), (1, .iconst 1), (1, .iload 1), (1, .ishl), (1, .ior), (3, .putfield 12), (1, .aload 0), (3, .getfield 18), (1, .iload 1), (1, .iconst 0), (1, .iastore), (1, .return_)])])
def ax_m_0_12 : ax_M := (⟨"ShakingCourt$Bowl", "turnOut", "()V"⟩, prog_2_method_13_code, 5, none, 1, [
  (0, [(1, .iconst 0), (1, .istore 1), (1, .iconst 0), (1, .istore 2)]),
  (4, [(1, .iload 2), (1, .aload 0), (3, .getfield 0), (3, .if_icmp .ge 39), (1, .aload 0), (1, .iload 2), (3, .invokeinterface 4 9), (3, .ifCond .eq 33), (1, .iload 1), (1, .iconst 1), (1, .aload 0), (3, .getfield 0), (1, .iconst 1), (1, .isub), (1, .iload 2), (1, .isub), (1, .ishl), (1, .ior), (1, .istore 1)]),
  (33, [(3, .iinc 2 1), (3, .goto 4)]),
  (39, [(1, .aload 0), (1, .iload 1), (3, .putfield 12), (1, .iconst 0), (1, .istore 2), (1, .aload 0), (3, .getfield 0), (1, .iconst 1), (1, .isub), (1, .istore 3)]),
  (53, [(1, .iload 2), (1, .iload 3), (3, .if_icmp .ge 95), (1, .aload 0), (3, .getfield 18), (1, .iload 2), (1, .iaload), (2, .istore 4), (1, .aload 0), (3, .getfield 18), (1, .iload 2), (1, .aload 0), (3, .getfield 18), (1, .iload 3), (1, .iaload), (1, .iastore), (1, .aload 0), (3, .getfield 18), (1, .iload 3), (2, .iload 4), (1, .iastore), (3, .iinc 2 1), (3, .iinc 3 (-1)), (3, .goto 53)]),
  (95, [(1, .return_)])])
def ax_m_0_13 : ax_M := (⟨"ShakingCourt$Bowl", "exchange", "(II)V"⟩, prog_2_method_14_code, 4, none, 1, [
  (0, [(1, .aload 0), (3, .getfield 22), (1, .iload 1), (1, .iaload), (1, .istore 3), (1, .aload 0), (3, .getfield 22), (1, .iload 1), (1, .aload 0), (3, .getfield 22), (1, .iload 2), (1, .iaload), (1, .iastore), (1, .aload 0), (3, .getfield 22), (1, .iload 2), (1, .iload 3), (1, .iastore), (1, .return_)])])
def ax_m_0_14 : ax_M := (⟨"ShakingCourt$Bowl", "cellBehind", "(I)I"⟩, prog_2_method_15_code, 2, (some .int), 1, [
  (0, [(1, .iload 1), (1, .iconst 1), (1, .iadd), (1, .aload 0), (3, .getfield 0), (3, .if_icmp .ge 16), (1, .iload 1), (1, .iconst 1), (1, .iadd), (3, .goto 17)]),
  (16, [(1, .iconst 0)]),
  (17, [(1, .ireturn)])])
def ax_m_0_15 : ax_M := (⟨"ShakingCourt$Bowl", "cellAhead", "(I)I"⟩, prog_2_method_16_code, 2, (some .int), 1, [
  (0, [(1, .iload 1), (3, .ifCond .le 10), (1, .iload 1), (1, .iconst 1), (1, .isub), (3, .goto 16)]),
  (10, [(1, .aload 0), (3, .getfield 0), (1, .iconst 1), (1, .isub)]),
  (16, [(1, .ireturn)])])
def ax_m_0_16 : ax_M := (⟨"ShakingCourt$Bowl", "allDone", "()I"⟩, prog_2_method_17_code, 3, (some .int), 1, [
  (0, [(1, .iconst 0), (1, .istore 1), (1, .iconst 0), (1, .istore 2)]),
  (4, [(1, .iload 2), (1, .aload 0), (3, .getfield 4), (3, .if_icmp .ge 27), (1, .iload 1), (1, .aload 0), (3, .getfield 26), (1, .iload 2), (1, .iaload), (1, .iadd), (1, .istore 1), (3, .iinc 2 1), (3, .goto 4)]),
  (27, [(1, .iload 1), (1, .ireturn)])])
def ax_m_0_17 : ax_M := (⟨"ShakingCourt$Bowl", "shakingBits", "()I"⟩, prog_2_method_18_code, 3, (some .int), 1, [
  (0, [(1, .iconst 0), (1, .istore 1), (1, .iconst 0), (1, .istore 2)]),
  (4, [(1, .iload 2), (1, .aload 0), (3, .getfield 0), (3, .if_icmp .ge 33), (1, .aload 0), (3, .getfield 18), (1, .iload 2), (1, .iaload), (3, .ifCond .le 27), (1, .iload 1), (1, .iconst 1), (1, .iload 2), (1, .ishl), (1, .ior), (1, .istore 1)]),
  (27, [(3, .iinc 2 1), (3, .goto 4)]),
  (33, [(1, .iload 1), (1, .ireturn)])])
def ax_m_0_18 : ax_M := (⟨"ShakingCourt$Bowl", "allOpenShake", "()Z"⟩, prog_2_method_19_code, 2, (some .boolean), 1, [
  (0, [(1, .iconst 1), (1, .aload 0), (3, .getfield 0), (1, .ishl), (1, .iconst 1), (1, .isub), (1, .istore 1), (1, .aload 0), (3, .getfield 12), (1, .iload 1), (3, .if_icmp .eq 34), (1, .aload 0), (3, .invokeinterface 17 5), (1, .aload 0), (3, .getfield 12), (1, .ior), (1, .iload 1), (3, .if_icmp .ne 34), (1, .iconst 1), (3, .goto 35)]),
  (34, [(1, .iconst 0)]),
  (35, [(1, .ireturn)])])
def ax_m_0_19 : ax_M := (⟨"ShakingCourt$Bowl", "pairsAlike", "()I"⟩, prog_2_method_20_code, 4, (some .int), 1, [
  (0, [(1, .iconst 0), (1, .istore 1), (1, .iconst 0), (1, .istore 2)]),
  (4, [(1, .iload 2), (1, .aload 0), (3, .getfield 0), (3, .if_icmp .ge 54), (1, .iload 2), (1, .iconst 1), (1, .iadd), (1, .istore 3)]),
  (16, [(1, .iload 3), (1, .aload 0), (3, .getfield 0), (3, .if_icmp .ge 48), (1, .aload 0), (3, .getfield 18), (1, .iload 2), (1, .iaload), (1, .aload 0), (3, .getfield 18), (1, .iload 3), (1, .iaload), (3, .if_icmp .ne 42), (3, .iinc 1 1)]),
  (42, [(3, .iinc 3 1), (3, .goto 16)]),
  (48, [(3, .iinc 2 1), (3, .goto 4)]),
  (54, [(1, .iload 1), (1, .ireturn)])])
def ax_m_0_20 : ax_M := (⟨"ShakingCourt$Bowl", "isEven", "()Z"⟩, prog_2_method_21_code, 3, (some .boolean), 1, [
  (0, [(1, .iconst 0), (1, .istore 1), (1, .aload 0), (3, .getfield 0), (1, .iconst 1), (1, .isub), (1, .istore 2)]),
  (9, [(1, .iload 1), (1, .iload 2), (3, .if_icmp .ge 53), (1, .aload 0), (3, .getfield 18), (1, .iload 1), (1, .iaload), (1, .aload 0), (3, .getfield 18), (1, .iload 2), (1, .iaload), (3, .if_icmp .ne 42), (1, .aload 0), (1, .iload 1), (3, .invokeinterface 4 9), (1, .aload 0), (1, .iload 2), (3, .invokeinterface 4 9), (3, .if_icmp .eq 44)]),
  (42, [(1, .iconst 0), (1, .ireturn)]),
  (44, [(3, .iinc 1 1), (3, .iinc 2 (-1)), (3, .goto 9)]),
  (53, [(1, .iconst 1), (1, .ireturn)])])
def ax_m_0_21 : ax_M := (⟨"ShakingCourt$Bowl", "widestCalm", "()I"⟩, prog_2_method_22_code, 5, (some .int), 1, [
  (0, [(1, .iconst 0), (1, .istore 1), (1, .iconst 0), (1, .istore 2), (1, .iconst 0), (1, .istore 3)]),
  (6, [(1, .iload 3), (1, .iconst 2), (1, .aload 0), (3, .getfield 0), (1, .imul), (3, .if_icmp .ge 66), (1, .iload 3), (1, .aload 0), (3, .getfield 0), (3, .if_icmp .ge 28), (1, .iload 3), (3, .goto 34)]),
  (28, [(1, .iload 3), (1, .aload 0), (3, .getfield 0), (1, .isub)]),
  (34, [(2, .istore 4), (1, .aload 0), (3, .getfield 18), (2, .iload 4), (1, .iaload), (3, .ifCond .le 50), (1, .iconst 0), (3, .goto 53)]),
  (50, [(1, .iload 2), (1, .iconst 1), (1, .iadd)]),
  (53, [(1, .istore 2), (1, .iload 1), (1, .iload 2), (3, .invokeinterface 1665 8), (1, .istore 1), (3, .iinc 3 1), (3, .goto 6)]),
  (66, [(1, .iload 1), (1, .aload 0), (3, .getfield 0), (3, .invokeinterface 1666 8), (1, .ireturn)])])
def ax_m_0_22 : ax_M := (⟨"ShakingCourt$Bowl", "loudest", "()I"⟩, prog_2_method_23_code, 4, (some .int), 1, [
  (0, [(1, .iconst (-1)), (1, .istore 1), (1, .iconst 0), (1, .istore 2), (1, .iconst 0), (1, .istore 3)]),
  (6, [(1, .iload 3), (1, .aload 0), (3, .getfield 0), (3, .if_icmp .ge 39), (1, .aload 0), (3, .getfield 18), (1, .iload 3), (1, .iaload), (1, .iload 2), (3, .if_icmp .le 33), (1, .aload 0), (3, .getfield 18), (1, .iload 3), (1, .iaload), (1, .istore 2), (1, .iload 3), (1, .istore 1)]),
  (33, [(3, .iinc 3 1), (3, .goto 6)]),
  (39, [(1, .iload 1), (1, .ireturn)])])
def ax_m_0_23 : ax_M := (⟨"ShakingCourt$Bowl", "quietestOpen", "()I"⟩, prog_2_method_24_code, 3, (some .int), 1, [
  (0, [(1, .iconst (-1)), (1, .istore 1), (1, .iconst 0), (1, .istore 2)]),
  (4, [(1, .iload 2), (1, .aload 0), (3, .getfield 0), (3, .if_icmp .ge 48), (1, .aload 0), (1, .iload 2), (3, .invokeinterface 4 9), (3, .ifCond .ne 42), (1, .iload 1), (1, .iconst (-1)), (3, .if_icmp .eq 40), (1, .aload 0), (3, .getfield 18), (1, .iload 2), (1, .iaload), (1, .aload 0), (3, .getfield 18), (1, .iload 1), (1, .iaload), (3, .if_icmp .ge 42)]),
  (40, [(1, .iload 2), (1, .istore 1)]),
  (42, [(3, .iinc 2 1), (3, .goto 4)]),
  (48, [(1, .iload 1), (1, .ireturn)])])
def ax_m_0_24 : ax_M := (⟨"ShakingCourt$Bowl", "range", "()I"⟩, prog_2_method_25_code, 3, (some .int), 1, [
  (0, [(1, .aload 0), (3, .invokeinterface 23 5), (1, .istore 1), (1, .aload 0), (3, .invokeinterface 22 5), (1, .istore 2), (1, .iload 1), (1, .iconst (-1)), (3, .if_icmp .eq 20), (1, .iload 2), (1, .iconst (-1)), (3, .if_icmp .ne 24)]),
  (20, [(1, .iconst 0), (3, .goto 37)]),
  (24, [(1, .aload 0), (3, .getfield 18), (1, .iload 2), (1, .iaload), (1, .aload 0), (3, .getfield 18), (1, .iload 1), (1, .iaload), (1, .isub)]),
  (37, [(1, .ireturn)])])
def ax_m_0_25 : ax_M := (⟨"ShakingCourt$Bowl", "sumFrom", "(II)I"⟩, prog_2_method_26_code, 6, (some .int), 1, [
  (0, [(1, .iconst 0), (1, .istore 3), (1, .iload 1), (2, .istore 4), (1, .iconst 0), (2, .istore 5)]),
  (8, [(2, .iload 5), (1, .iload 2), (3, .if_icmp .ge 38), (1, .iload 3), (1, .aload 0), (3, .getfield 18), (2, .iload 4), (1, .iaload), (1, .iadd), (1, .istore 3), (1, .aload 0), (2, .iload 4), (3, .invokeinterface 14 9), (2, .istore 4), (3, .iinc 5 1), (3, .goto 8)]),
  (38, [(1, .iload 3), (1, .ireturn)])])
def ax_m_0_26 : ax_M := (⟨"ShakingCourt$Bowl", "breathsToStill", "()I"⟩, prog_2_method_27_code, 3, (some .int), 1, [
  (0, [(1, .iconst 0), (1, .istore 1), (1, .iconst 0), (1, .istore 2)]),
  (4, [(1, .iload 2), (1, .aload 0), (3, .getfield 0), (3, .if_icmp .ge 33), (1, .iload 1), (1, .aload 0), (3, .getfield 18), (1, .iload 2), (1, .iaload), (1, .iconst 3), (1, .iadd), (1, .iconst 1), (1, .isub), (1, .iconst 3), (1, .idiv), (1, .iadd), (1, .istore 1), (3, .iinc 2 1), (3, .goto 4)]),
  (33, [(1, .iload 1), (1, .ireturn)])])
def ax_m_1_0 : ax_M := (⟨"ShakingCourt$Court", "<init>", "()V"⟩, prog_3_method_1_code, 1, none, 2, [
  (0, [(1, .aload 0), (3, .invokedynamic 0), (1, .aload 0), (2, .iconst 6), (2, .newarray .int), (3, .putstatic 266), (1, .aload 0), (2, .iconst 6), (2, .newarray .int), (3, .putstatic 270), (1, .aload 0), (2, .iconst 6), (2, .newarray .int), (3, .putstatic 274), (1, .aload 0), (2, .iconst 6), (2, .newarray .long), (3, .putstatic 278), (1, .aload 0), (2, .iconst 12), (2, .newarray .int), (3, .putstatic 282), (1, .aload 0), (3, .iconst 1000), (2, .newarray .int), (3, .putstatic 290), (1, .aload 0), (3, .new 3), (1, .dup), (1, .aload 0), (3, .getfield 290), (3, .invokeinterface 384 10), (3, .putstatic 294), (1, .aload 0), (3, .new 3), (1, .dup), (1, .aload 0), (3, .getfield 290), (3, .invokeinterface 384 10), (3, .putstatic 298), (1, .return_)])])
def ax_m_1_1 : ax_M := (⟨"ShakingCourt$Court", "clear", "()V"⟩, prog_3_method_2_code, 1, none, 1, [
  (0, [(1, .aload 0), (2, .iconst 8), (3, .putfield 256), (1, .aload 0), (1, .iconst 0), (3, .putfield 260), (1, .aload 0), (3, .getfield 282), (1, .iconst 0), (1, .iconst 2), (1, .iastore), (1, .aload 0), (1, .iconst 1), (3, .putfield 284), (1, .aload 0), (1, .iconst 0), (3, .putfield 300), (1, .aload 0), (3, .getfield 294), (1, .iconst 0), (3, .putfield 780), (1, .aload 0), (3, .getfield 294), (1, .iconst 0), (3, .putfield 784), (1, .aload 0), (3, .getfield 298), (1, .iconst 0), (3, .putfield 780), (1, .aload 0), (3, .getfield 298), (1, .iconst 0), (3, .putfield 784), (1, .return_)])])
def ax_m_1_2 : ax_M := (⟨"ShakingCourt$Court", "isToldOnce", "(I)Z"⟩, prog_3_method_3_code, 2, (some .boolean), 1, [
  (0, [(1, .aload 0), (3, .getfield 300), (1, .iconst 1), (1, .iload 1), (1, .ishl), (1, .iand), (3, .ifCond .eq 15), (1, .iconst 1), (3, .goto 16)]),
  (15, [(1, .iconst 0)]),
  (16, [(1, .ireturn)])])
def ax_m_1_3 : ax_M := (⟨"ShakingCourt$Court", "tellOnce", "(I)V"⟩, prog_3_method_4_code, 2, none, 1, [
  (0, [(1, .aload 0), (1, .dup), (3, .getfield 300), (1, .iconst 1), (1, .iload 1), (1, .ishl), (1, .ior), (3, .putfield 300), (1, .return_)])])
def ax_m_1_4 : ax_M := (⟨"ShakingCourt$Court", "openLaw", "(I)LShakingCourt$Law;"⟩, prog_3_method_5_code, 3, (some (.object "ShakingCourt$Law")), 1, [
  (0, [(1, .iload 1), (1, .iconst 5), (3, .if_icmp .ne 12), (1, .aload 0), (3, .getfield 294), (3, .goto 16)]),
  (12, [(1, .aload 0), (3, .getfield 298)]),
  (16, [(1, .astore 2), (1, .aload 2), (1, .aload 0), (3, .getfield 294), (3, .getfield 784), (1, .aload 0), (3, .getfield 298), (3, .getfield 784), (3, .invokeinterface 1665 8), (3, .putfield 780), (1, .aload 2), (1, .aload 2), (3, .getfield 780), (3, .putfield 784), (1, .aload 2), (1, .areturn)])])
def ax_m_1_5 : ax_M := (⟨"ShakingCourt$Court", "settle", "()V"⟩, prog_3_method_6_code, 2, none, 1, [
  (0, [(1, .iconst 0), (1, .istore 1)]),
  (2, [(1, .iload 1), (1, .aload 0), (3, .getfield 260), (3, .if_icmp .ge 37), (1, .aload 0), (3, .getfield 270), (1, .iload 1), (1, .aload 0), (3, .getfield 270), (1, .iload 1), (1, .iaload), (1, .aload 0), (3, .getfield 256), (1, .iconst 1), (1, .isub), (3, .invokeinterface 1666 8), (1, .iastore), (3, .iinc 1 1), (3, .goto 2)]),
  (37, [(1, .aload 0), (1, .iconst 5), (3, .invokeinterface 130 9), (3, .ifCond .ne 54), (1, .aload 0), (1, .iconst 5), (3, .invokeinterface 132 9), (1, .iconst 1), (3, .invokeinterface 386 9)]),
  (54, [(1, .aload 0), (2, .iconst 6), (3, .invokeinterface 130 9), (3, .ifCond .ne 74), (1, .aload 0), (2, .iconst 6), (3, .invokeinterface 132 9), (2, .iconst (-21)), (3, .invokeinterface 386 9)]),
  (74, [(1, .return_)])])
def ax_m_1_6 : ax_M := (⟨"ShakingCourt$Court", "copy", "(LShakingCourt$Court;)V"⟩, prog_3_method_7_code, 2, none, 1, [
  (0, [(1, .aload 0), (1, .aload 1), (3, .getfield 256), (3, .putfield 256), (1, .aload 0), (1, .aload 1), (3, .getfield 260), (3, .putfield 260), (1, .aload 0), (1, .aload 1), (3, .getfield 284), (3, .putfield 284), (1, .aload 0), (1, .aload 1), (3, .getfield 300), (3, .putfield 300), (1, .aload 1), (3, .getfield 266), (1, .iconst 0), (1, .aload 0), (3, .getfield 266), (1, .iconst 0), (2, .iconst 6), (3, .invokedynamic 1), (1, .aload 1), (3, .getfield 270), (1, .iconst 0), (1, .aload 0), (3, .getfield 270), (1, .iconst 0), (2, .iconst 6), (3, .invokedynamic 1), (1, .aload 1), (3, .getfield 274), (1, .iconst 0), (1, .aload 0), (3, .getfield 274), (1, .iconst 0), (2, .iconst 6), (3, .invokedynamic 1), (1, .aload 1), (3, .getfield 278), (1, .iconst 0), (1, .aload 0), (3, .getfield 278), (1, .iconst 0), (2, .iconst 6), (3, .invokedynamic 1), (1, .aload 1), (3, .getfield 282), (1, .iconst 0), (1, .aload 0), (3, .getfield 282), (1, .iconst 0), (2, .iconst 12), (3, .invokedynamic 1), (1, .aload 1), (3, .getfield 290), (1, .iconst 0), (1, .aload 0), (3, .getfield 290), (1, .iconst 0), (3, .iconst 1000), (3, .invokedynamic 1), (1, .aload 0), (3, .getfield 294), (1, .aload 1), (3, .getfield 294), (3, .invokeinterface 385 9), (1, .aload 0), (3, .getfield 298), (1, .aload 1), (3, .getfield 298), (3, .invokeinterface 385 9), (1, .return_)])])
def ax_m_1_7 : ax_M := (⟨"ShakingCourt$Court", "find", "(J)I"⟩, prog_3_method_8_code, 4, (some .int), 1, [
  (0, [(1, .iconst 0), (1, .istore 3)]),
  (2, [(1, .iload 3), (1, .aload 0), (3, .getfield 260), (3, .if_icmp .ge 29), (1, .aload 0), (3, .getfield 278), (1, .iload 3), (1, .laload), (1, .lload 1), (1, .lcmp), (3, .ifCond .ne 23), (1, .iload 3), (1, .ireturn)]),
  (23, [(3, .iinc 3 1), (3, .goto 2)]),
  (29, [(1, .iconst (-1)), (1, .ireturn)])])
def ax_m_1_8 : ax_M := (⟨"ShakingCourt$Court", "heatAt", "(I)I"⟩, prog_3_method_9_code, 2, (some .int), 1, [
  (0, [(1, .aload 0), (3, .getfield 284), (3, .ifCond .le 23), (1, .aload 0), (3, .getfield 282), (1, .iload 1), (1, .aload 0), (3, .getfield 284), (3, .invokeinterface 1664 8), (1, .iaload), (3, .goto 24)]),
  (23, [(1, .iconst 2)]),
  (24, [(1, .ireturn)])])
def ax_m_1_9 : ax_M := (⟨"ShakingCourt$Court", "shareOf", "(II)I"⟩, prog_3_method_10_code, 7, (some .int), 1, [
  (0, [(1, .iconst 0), (1, .istore 3), (1, .iconst 0), (2, .istore 4)]),
  (5, [(2, .iload 4), (1, .aload 0), (3, .getfield 260), (3, .if_icmp .ge 30), (1, .iload 3), (1, .aload 0), (3, .getfield 274), (2, .iload 4), (1, .iaload), (1, .iadd), (1, .istore 3), (3, .iinc 4 1), (3, .goto 5)]),
  (30, [(1, .iload 2), (2, .istore 4), (1, .iconst 0), (2, .istore 5)]),
  (36, [(2, .iload 5), (1, .aload 0), (3, .getfield 260), (3, .if_icmp .ge 64), (2, .iload 4), (1, .aload 0), (2, .iload 5), (1, .iload 2), (1, .iload 3), (3, .invokeinterface 138 17), (1, .isub), (2, .istore 4), (3, .iinc 5 1), (3, .goto 36)]),
  (64, [(1, .aload 0), (3, .getfield 260), (3, .ifCond .le 81), (2, .iload 4), (1, .aload 0), (3, .getfield 260), (1, .idiv), (3, .goto 82)]),
  (81, [(1, .iconst 0)]),
  (82, [(2, .istore 5), (1, .iload 1), (2, .iload 4), (2, .iload 5), (1, .aload 0), (3, .getfield 260), (1, .imul), (1, .isub), (3, .if_icmp .ge 102), (1, .iconst 1), (3, .goto 103)]),
  (102, [(1, .iconst 0)]),
  (103, [(2, .istore 6), (1, .aload 0), (1, .iload 1), (1, .iload 2), (1, .iload 3), (3, .invokeinterface 138 17), (2, .iload 5), (1, .iadd), (2, .iload 6), (1, .iadd), (1, .ireturn)])])
def ax_m_1_10 : ax_M := (⟨"ShakingCourt$Court", "partOf", "(III)I"⟩, prog_3_method_11_code, 4, (some .int), 1, [
  (0, [(1, .iload 3), (3, .ifCond .le 17), (1, .iload 2), (1, .aload 0), (3, .getfield 274), (1, .iload 1), (1, .iaload), (1, .imul), (1, .iload 3), (1, .idiv), (3, .goto 18)]),
  (17, [(1, .iconst 0)]),
  (18, [(1, .ireturn)])])
def ax_m_2_0 : ax_M := (⟨"ShakingCourt$Felt", "<init>", "()V"⟩, prog_4_method_1_code, 1, none, 2, [
  (0, [(1, .aload 0), (3, .invokedynamic 0), (1, .aload 0), (2, .iconst 8), (2, .newarray .int), (3, .putstatic 518), (1, .aload 0), (2, .iconst 8), (2, .newarray .int), (3, .putstatic 522), (1, .aload 0), (2, .iconst 8), (2, .newarray .int), (3, .putstatic 526), (1, .return_)])])
def ax_m_2_1 : ax_M := (⟨"ShakingCourt$Felt", "add", "(III)Z"⟩, prog_4_method_2_code, 4, (some .boolean), 1, [
  (0, [(1, .aload 0), (3, .getfield 512), (2, .iconst 8), (3, .if_icmp .lt 11), (1, .iconst 0), (1, .ireturn)]),
  (11, [(1, .aload 0), (3, .getfield 518), (1, .aload 0), (3, .getfield 512), (1, .iload 1), (1, .iastore), (1, .aload 0), (3, .getfield 522), (1, .aload 0), (3, .getfield 512), (1, .iload 2), (1, .iastore), (1, .aload 0), (3, .getfield 526), (1, .aload 0), (3, .getfield 512), (1, .iload 3), (1, .iastore), (1, .aload 0), (1, .dup), (3, .getfield 512), (1, .iconst 1), (1, .iadd), (3, .putfield 512), (1, .iconst 1), (1, .ireturn)])])
def ax_m_2_2 : ax_M := (⟨"ShakingCourt$Felt", "copy", "(LShakingCourt$Felt;)V"⟩, prog_4_method_3_code, 2, none, 1, [
  (0, [(1, .aload 0), (1, .aload 1), (3, .getfield 512), (3, .putfield 512), (1, .aload 1), (3, .getfield 518), (1, .iconst 0), (1, .aload 0), (3, .getfield 518), (1, .iconst 0), (2, .iconst 8), (3, .invokedynamic 1), (1, .aload 1), (3, .getfield 522), (1, .iconst 0), (1, .aload 0), (3, .getfield 522), (1, .iconst 0), (2, .iconst 8), (3, .invokedynamic 1), (1, .aload 1), (3, .getfield 526), (1, .iconst 0), (1, .aload 0), (3, .getfield 526), (1, .iconst 0), (2, .iconst 8), (3, .invokedynamic 1), (1, .return_)])])
def ax_m_2_3 : ax_M := (⟨"ShakingCourt$Felt", "lastBeat", "()I"⟩, prog_4_method_4_code, 3, (some .int), 1, [
  (0, [(1, .iconst (-1)), (1, .istore 1), (1, .iconst 0), (1, .istore 2)]),
  (4, [(1, .iload 2), (1, .aload 0), (3, .getfield 512), (3, .if_icmp .ge 29), (1, .iload 1), (1, .aload 0), (3, .getfield 522), (1, .iload 2), (1, .iaload), (3, .invokeinterface 1665 8), (1, .istore 1), (3, .iinc 2 1), (3, .goto 4)]),
  (29, [(1, .iload 1), (1, .ireturn)])])
def ax_m_2_4 : ax_M := (⟨"ShakingCourt$Felt", "agrees", "(LShakingCourt$Bowl;I)Z"⟩, prog_4_method_5_code, 4, (some .boolean), 1, [
  (0, [(1, .iconst 0), (1, .istore 3)]),
  (2, [(1, .iload 3), (1, .aload 0), (3, .getfield 512), (3, .if_icmp .ge 48), (1, .aload 0), (3, .getfield 522), (1, .iload 3), (1, .iaload), (1, .iload 2), (3, .if_icmp .ne 42), (1, .aload 1), (3, .getfield 18), (1, .aload 0), (3, .getfield 518), (1, .iload 3), (1, .iaload), (1, .iaload), (1, .aload 0), (3, .getfield 526), (1, .iload 3), (1, .iaload), (3, .if_icmp .eq 42), (1, .iconst 0), (1, .ireturn)]),
  (42, [(3, .iinc 3 1), (3, .goto 2)]),
  (48, [(1, .iconst 1), (1, .ireturn)])])
def ax_m_3_0 : ax_M := (⟨"ShakingCourt$Law", "<init>", "([I)V"⟩, prog_5_method_1_code, 2, none, 2, [
  (0, [(1, .aload 0), (3, .invokedynamic 0), (1, .aload 0), (2, .iconst 32), (2, .newarray .int), (3, .putstatic 774), (1, .aload 0), (1, .iconst 4), (2, .newarray .int), (3, .putstatic 778), (1, .aload 0), (1, .aload 1), (3, .putstatic 770), (1, .return_)])])
def ax_m_3_1 : ax_M := (⟨"ShakingCourt$Law", "copyRange", "(LShakingCourt$Law;)V"⟩, prog_5_method_2_code, 2, none, 1, [
  (0, [(1, .aload 0), (1, .aload 1), (3, .getfield 780), (3, .putfield 780), (1, .aload 0), (1, .aload 1), (3, .getfield 784), (3, .putfield 784), (1, .return_)])])
def ax_m_3_2 : ax_M := (⟨"ShakingCourt$Law", "add", "(I)V"⟩, prog_5_method_3_code, 2, none, 1, [
  (0, [(1, .aload 0), (3, .getfield 784), (1, .aload 0), (3, .getfield 770), (1, .arraylength), (3, .if_icmp .ge 32), (1, .aload 0), (3, .getfield 770), (1, .aload 0), (3, .getfield 784), (1, .iload 1), (1, .iastore), (1, .aload 0), (1, .dup), (3, .getfield 784), (1, .iconst 1), (1, .iadd), (3, .putfield 784)]),
  (32, [(1, .return_)])])
def ax_m_3_3 : ax_M := (⟨"ShakingCourt$Law", "valueWithin", "(IIII)I"⟩, prog_5_method_4_code, 10, (some .int), 1, [
  (0, [(1, .aload 0), (3, .getfield 778), (1, .iconst 0), (1, .iload 1), (1, .iastore), (1, .aload 0), (3, .getfield 778), (1, .iconst 1), (1, .iload 2), (1, .iastore), (1, .aload 0), (3, .getfield 778), (1, .iconst 2), (1, .iload 3), (1, .iastore), (1, .aload 0), (3, .getfield 778), (1, .iconst 3), (2, .iload 4), (1, .iastore), (1, .iconst 0), (2, .istore 5), (1, .aload 0), (3, .getfield 780), (2, .istore 6)]),
  (38, [(2, .iload 6), (1, .aload 0), (3, .getfield 784), (3, .if_icmp .ge 220), (1, .aload 0), (3, .getfield 770), (2, .iload 6), (1, .iaload), (2, .istore 7), (2, .iload 7), (1, .iconst (-1)), (1, .ixor), (2, .istore 8), (2, .iload 8), (2, .iconst 20), (3, .if_icmp .lt 80), (2, .iload 8), (2, .iconst 23), (3, .if_icmp .gt 80), (1, .iconst 1), (3, .goto 81)]),
  (80, [(1, .iconst 0)]),
  (81, [(2, .istore 9), (2, .iload 7), (3, .ifCond .ge 93), (2, .iload 9), (3, .ifCond .eq 133)]),
  (93, [(2, .iload 5), (2, .iconst 32), (3, .if_icmp .ge 133), (1, .aload 0), (3, .getfield 774), (2, .iload 5), (2, .iload 9), (3, .ifCond .eq 124), (1, .aload 0), (3, .getfield 778), (2, .iload 8), (2, .iconst 20), (1, .isub), (1, .iaload), (3, .goto 126)]),
  (124, [(2, .iload 7)]),
  (126, [(1, .iastore), (3, .iinc 5 1), (3, .goto 214)]),
  (133, [(2, .iload 8), (2, .iconst 17), (3, .if_icmp .ne 175), (2, .iload 5), (1, .iconst 1), (3, .if_icmp .lt 175), (1, .aload 0), (3, .getfield 774), (2, .iload 5), (1, .iconst 1), (1, .isub), (1, .aload 0), (3, .getfield 774), (2, .iload 5), (1, .iconst 1), (1, .isub), (1, .iaload), (3, .ifCond .ne 170), (1, .iconst 1), (3, .goto 171)]),
  (170, [(1, .iconst 0)]),
  (171, [(1, .iastore), (3, .goto 214)]),
  (175, [(2, .iload 5), (1, .iconst 2), (3, .if_icmp .lt 214), (3, .iinc 5 (-1)), (1, .aload 0), (3, .getfield 774), (2, .iload 5), (1, .iconst 1), (1, .isub), (2, .iload 8), (1, .aload 0), (3, .getfield 774), (2, .iload 5), (1, .iconst 1), (1, .isub), (1, .iaload), (1, .aload 0), (3, .getfield 774), (2, .iload 5), (1, .iaload), (3, .invokeinterface 388 12), (1, .iastore)]),
  (214, [(3, .iinc 6 1), (3, .goto 38)]),
  (220, [(2, .iload 5), (3, .ifCond .le 243), (1, .iconst 0), (2, .iconst 99), (1, .aload 0), (3, .getfield 774), (1, .iconst 0), (1, .iaload), (3, .invokeinterface 1666 8), (3, .invokeinterface 1665 8), (3, .goto 244)]),
  (243, [(1, .iconst 0)]),
  (244, [(1, .ireturn)])])
def ax_m_3_4 : ax_M := (⟨"ShakingCourt$Law", "join", "(III)I"⟩, prog_5_method_5_code, 3, (some .int), 0, [
  (0, [(1, .iload 0), (59, .lookupswitch 108 #[(18, 94), (42, 60), (43, 64), (45, 68), (60, 72), (61, 83)])]),
  (60, [(1, .iload 1), (1, .iload 2), (1, .imul), (1, .ireturn)]),
  (64, [(1, .iload 1), (1, .iload 2), (1, .iadd), (1, .ireturn)]),
  (68, [(1, .iload 1), (1, .iload 2), (1, .isub), (1, .ireturn)]),
  (72, [(1, .iload 1), (1, .iload 2), (3, .if_icmp .ge 81), (1, .iconst 1), (3, .goto 82)]),
  (81, [(1, .iconst 0)]),
  (82, [(1, .ireturn)]),
  (83, [(1, .iload 1), (1, .iload 2), (3, .if_icmp .ne 92), (1, .iconst 1), (3, .goto 93)]),
  (92, [(1, .iconst 0)]),
  (93, [(1, .ireturn)]),
  (94, [(1, .iload 1), (3, .ifCond .eq 106), (1, .iload 2), (3, .ifCond .eq 106), (1, .iconst 1), (3, .goto 107)]),
  (106, [(1, .iconst 0)]),
  (107, [(1, .ireturn)]),
  (108, [(1, .iload 1), (3, .ifCond .ne 116), (1, .iload 2), (3, .ifCond .eq 120)]),
  (116, [(1, .iconst 1), (3, .goto 121)]),
  (120, [(1, .iconst 0)]),
  (121, [(1, .ireturn)])])
def ax_m_4_0 : ax_M := (⟨"ShakingCourt$Past", "<init>", "()V"⟩, prog_6_method_1_code, 2, none, 2, [
  (0, [(1, .aload 0), (3, .invokedynamic 0), (1, .aload 0), (2, .iconst 16), (3, .anewarray 0), (3, .putstatic 1026), (1, .aload 0), (1, .iconst 4), (3, .anewarray 0), (3, .putstatic 1038), (1, .aload 0), (1, .iconst 4), (3, .anewarray 2), (3, .putstatic 1042), (1, .iconst 0), (1, .istore 1)]),
  (31, [(1, .iload 1), (2, .iconst 16), (3, .if_icmp .ge 56), (1, .aload 0), (3, .getfield 1026), (1, .iload 1), (3, .new 0), (1, .dup), (3, .invokeinterface 0 6), (1, .aastore), (3, .iinc 1 1), (3, .goto 31)]),
  (56, [(1, .iconst 0), (1, .istore 1)]),
  (58, [(1, .iload 1), (1, .iconst 4), (3, .if_icmp .ge 95), (1, .aload 0), (3, .getfield 1038), (1, .iload 1), (3, .new 0), (1, .dup), (3, .invokeinterface 0 6), (1, .aastore), (1, .aload 0), (3, .getfield 1042), (1, .iload 1), (3, .new 2), (1, .dup), (3, .invokeinterface 256 6), (1, .aastore), (3, .iinc 1 1), (3, .goto 58)]),
  (95, [(1, .return_)])])
def ax_m_4_1 : ax_M := (⟨"ShakingCourt$Past", "clear", "()V"⟩, prog_6_method_2_code, 1, none, 1, [
  (0, [(1, .aload 0), (1, .iconst 0), (3, .putfield 1032), (1, .aload 0), (1, .iconst 0), (3, .putfield 1044), (1, .return_)])])
def ax_m_4_2 : ax_M := (⟨"ShakingCourt$Past", "keep", "(LShakingCourt$Bowl;)V"⟩, prog_6_method_3_code, 2, none, 1, [
  (0, [(1, .aload 0), (3, .getfield 1026), (1, .aload 0), (3, .getfield 1028), (1, .aaload), (1, .aload 1), (3, .invokeinterface 2 9), (1, .aload 0), (1, .aload 0), (3, .getfield 1028), (1, .iconst 1), (1, .iadd), (2, .iconst 16), (3, .if_icmp .ge 34), (1, .aload 0), (3, .getfield 1028), (1, .iconst 1), (1, .iadd), (3, .goto 35)]),
  (34, [(1, .iconst 0)]),
  (35, [(3, .putfield 1028), (1, .aload 0), (2, .iconst 16), (1, .aload 0), (3, .getfield 1032), (1, .iconst 1), (1, .iadd), (3, .invokeinterface 1666 8), (3, .putfield 1032), (1, .return_)])])
def ax_m_4_3 : ax_M := (⟨"ShakingCourt$Past", "stepBack", "(LShakingCourt$Bowl;)Z"⟩, prog_6_method_4_code, 2, (some .boolean), 1, [
  (0, [(1, .aload 0), (3, .getfield 1032), (3, .ifCond .ne 9), (1, .iconst 0), (1, .ireturn)]),
  (9, [(1, .aload 0), (1, .aload 0), (3, .getfield 1028), (3, .ifCond .le 26), (1, .aload 0), (3, .getfield 1028), (1, .iconst 1), (1, .isub), (3, .goto 28)]),
  (26, [(2, .iconst 15)]),
  (28, [(3, .putfield 1028), (1, .aload 0), (1, .dup), (3, .getfield 1032), (1, .iconst 1), (1, .isub), (3, .putfield 1032), (1, .aload 1), (1, .aload 0), (3, .getfield 1026), (1, .aload 0), (3, .getfield 1028), (1, .aaload), (3, .invokeinterface 2 9), (1, .iconst 1), (1, .ireturn)])])
def ax_m_4_4 : ax_M := (⟨"ShakingCourt$Past", "lay", "(ILShakingCourt$Bowl;LShakingCourt$Felt;)V"⟩, prog_6_method_5_code, 4, none, 1, [
  (0, [(1, .aload 0), (3, .getfield 1038), (1, .iload 1), (1, .aaload), (1, .aload 2), (3, .invokeinterface 2 9), (1, .aload 0), (3, .getfield 1042), (1, .iload 1), (1, .aaload), (1, .aload 3), (3, .invokeinterface 258 9), (1, .aload 0), (1, .dup), (3, .getfield 1044), (1, .iconst 1), (1, .iload 1), (1, .ishl), (1, .ior), (3, .putfield 1044), (1, .return_)])])
def ax_m_4_5 : ax_M := (⟨"ShakingCourt$Past", "goBack", "(ILShakingCourt$Bowl;LShakingCourt$Felt;)Z"⟩, prog_6_method_6_code, 4, (some .boolean), 1, [
  (0, [(1, .aload 0), (3, .getfield 1044), (1, .iconst 1), (1, .iload 1), (1, .ishl), (1, .iand), (3, .ifCond .ne 13), (1, .iconst 0), (1, .ireturn)]),
  (13, [(1, .aload 2), (1, .aload 0), (3, .getfield 1038), (1, .iload 1), (1, .aaload), (3, .invokeinterface 2 9), (1, .aload 3), (1, .aload 0), (3, .getfield 1042), (1, .iload 1), (1, .aaload), (3, .invokeinterface 258 9), (1, .aload 0), (1, .iconst 0), (3, .putfield 1032), (1, .iconst 1), (1, .ireturn)])])
def ax_m_5_0 : ax_M := (⟨"ShakingCourt$Play", "<init>", "(LShakingCourt$Court;)V"⟩, prog_7_method_1_code, 2, none, 2, [
  (0, [(1, .aload 0), (3, .invokedynamic 0), (1, .aload 0), (2, .iconst 12), (2, .newarray .int), (3, .putstatic 1286), (1, .aload 0), (3, .iconst 1600), (2, .newarray .int), (3, .putstatic 1290), (1, .aload 0), (1, .aload 1), (3, .putstatic 1282), (1, .return_)])])
def ax_m_5_1 : ax_M := (⟨"ShakingCourt$Play", "forget", "()V"⟩, prog_7_method_2_code, 1, none, 1, [
  (0, [(1, .aload 0), (3, .getfield 1290), (1, .iconst 0), (3, .invokeinterface 1920 8), (1, .return_)])])
def ax_m_5_2 : ax_M := (⟨"ShakingCourt$Play", "pass", "(LShakingCourt$Bowl;I)I"⟩, prog_7_method_3_code, 6, (some .int), 1, [
  (0, [(1, .iconst 0), (1, .istore 3), (1, .iconst 0), (2, .istore 4)]),
  (5, [(2, .iload 4), (1, .iload 2), (3, .if_icmp .ge 57), (1, .aload 0), (3, .getfield 1282), (1, .aload 1), (3, .getfield 8), (3, .invokeinterface 136 9), (2, .istore 5), (1, .aload 0), (1, .aload 1), (2, .iload 5), (3, .invokeinterface 645 13), (1, .iload 3), (1, .aload 0), (1, .aload 1), (2, .iload 5), (3, .invokeinterface 647 13), (1, .iadd), (1, .istore 3), (1, .aload 1), (1, .dup), (3, .getfield 8), (1, .iconst 1), (1, .iadd), (3, .putfield 8), (3, .iinc 4 1), (3, .goto 5)]),
  (57, [(1, .iload 3), (1, .ireturn)])])
def ax_m_5_3 : ax_M := (⟨"ShakingCourt$Play", "drift", "(LShakingCourt$Bowl;I)V"⟩, prog_7_method_4_code, 4, none, 1, [
  (0, [(1, .iconst 0), (1, .istore 3)]),
  (2, [(1, .iload 3), (1, .iload 2), (3, .if_icmp .ge 39), (1, .aload 0), (1, .aload 1), (1, .aload 0), (3, .getfield 1282), (1, .aload 1), (3, .getfield 8), (3, .invokeinterface 136 9), (3, .invokeinterface 645 13), (1, .aload 1), (1, .dup), (3, .getfield 8), (1, .iconst 1), (1, .iadd), (3, .putfield 8), (3, .iinc 3 1), (3, .goto 2)]),
  (39, [(1, .return_)])])
def ax_m_5_4 : ax_M := (⟨"ShakingCourt$Play", "driftInHeat", "(LShakingCourt$Bowl;I)V"⟩, prog_7_method_5_code, 3, none, 1, [
  (0, [(1, .aload 0), (1, .aload 1), (1, .iload 2), (3, .invokeinterface 645 13), (1, .aload 1), (1, .dup), (3, .getfield 8), (1, .iconst 1), (1, .iadd), (3, .putfield 8), (1, .return_)])])
def ax_m_5_5 : ax_M := (⟨"ShakingCourt$Play", "ripple", "(LShakingCourt$Bowl;I)V"⟩, prog_7_method_6_code, 5, none, 1, [
  (0, [(1, .aload 1), (3, .getfield 18), (1, .iconst 0), (1, .aload 0), (3, .getfield 1286), (1, .iconst 0), (2, .iconst 12), (3, .invokedynamic 1), (1, .iconst 0), (1, .istore 3)]),
  (17, [(1, .iload 3), (1, .aload 1), (3, .getfield 0), (3, .if_icmp .ge 97), (1, .aload 1), (1, .iload 3), (3, .invokeinterface 4 9), (3, .ifCond .ne 91), (1, .aload 0), (3, .getfield 1286), (1, .aload 1), (1, .iload 3), (3, .invokeinterface 15 9), (1, .iaload), (1, .aload 0), (3, .getfield 1286), (1, .aload 1), (1, .iload 3), (3, .invokeinterface 14 9), (1, .iaload), (1, .iadd), (1, .iconst 2), (1, .idiv), (2, .istore 4), (1, .aload 1), (3, .getfield 18), (1, .iload 3), (2, .iload 4), (3, .ifCond .ne 72), (1, .iconst 0), (3, .goto 90)]),
  (72, [(1, .iconst 0), (2, .iload 4), (1, .aload 0), (2, .iload 4), (1, .iload 2), (1, .aload 1), (3, .getfield 8), (3, .invokeinterface 646 17), (1, .isub), (3, .invokeinterface 1665 8)]),
  (90, [(1, .iastore)]),
  (91, [(3, .iinc 3 1), (3, .goto 17)]),
  (97, [(1, .return_)])])
def ax_m_5_6 : ax_M := (⟨"ShakingCourt$Play", "fadeOf", "(III)I"⟩, prog_7_method_7_code, 8, (some .int), 1, [
  (0, [(1, .iload 3), (2, .iconst 6), (1, .imul), (1, .iload 2), (1, .iadd), (1, .iconst 1), (1, .iadd), (2, .istore 4), (1, .iload 3), (2, .iconst 16), (3, .invokeinterface 1664 8), (2, .iconst 100), (1, .imul), (1, .iload 1), (1, .iadd), (2, .istore 5), (2, .iload 5), (3, .ifCond .lt 38), (2, .iload 5), (1, .aload 0), (3, .getfield 1290), (1, .arraylength), (3, .if_icmp .lt 53)]),
  (38, [(1, .aload 0), (3, .getfield 1282), (3, .getfield 294), (1, .iload 1), (1, .iload 2), (1, .iload 3), (1, .iconst 0), (3, .invokeinterface 387 21), (1, .ireturn)]),
  (53, [(1, .aload 0), (3, .getfield 1290), (2, .iload 5), (1, .iaload), (2, .istore 6), (2, .iload 6), (2, .iconst 7), (1, .ishr), (2, .iload 4), (3, .if_icmp .ne 78), (2, .iload 6), (2, .iconst 127), (1, .iand), (1, .ireturn)]),
  (78, [(1, .aload 0), (3, .getfield 1282), (3, .getfield 294), (1, .iload 1), (1, .iload 2), (1, .iload 3), (1, .iconst 0), (3, .invokeinterface 387 21), (2, .istore 7), (1, .aload 0), (3, .getfield 1290), (2, .iload 5), (2, .iload 4), (2, .iconst 7), (1, .ishl), (2, .iload 7), (1, .ior), (1, .iastore), (2, .iload 7), (1, .ireturn)])])
def ax_m_5_7 : ax_M := (⟨"ShakingCourt$Play", "serve", "(LShakingCourt$Bowl;I)I"⟩, prog_7_method_8_code, 6, (some .int), 1, [
  (0, [(1, .iconst 0), (1, .istore 3), (1, .iconst 0), (2, .istore 4)]),
  (5, [(2, .iload 4), (1, .aload 1), (3, .getfield 4), (3, .if_icmp .ge 47), (1, .aload 0), (1, .aload 1), (2, .iload 4), (1, .iload 2), (3, .invokeinterface 648 17), (2, .istore 5), (1, .aload 1), (3, .getfield 26), (2, .iload 4), (1, .dup2), (1, .iaload), (2, .iload 5), (1, .iadd), (1, .iastore), (1, .iload 3), (2, .iload 5), (1, .iadd), (1, .istore 3), (3, .iinc 4 1), (3, .goto 5)]),
  (47, [(1, .iload 3), (1, .ireturn)])])
def ax_m_5_8 : ax_M := (⟨"ShakingCourt$Play", "deedOf", "(LShakingCourt$Bowl;II)I"⟩, prog_7_method_9_code, 10, (some .int), 1, [
  (0, [(1, .aload 1), (3, .getfield 22), (1, .iload 2), (1, .iaload), (2, .istore 4), (1, .aload 0), (3, .getfield 1282), (3, .getfield 266), (1, .iload 2), (1, .iaload), (2, .istore 5), (1, .aload 1), (3, .getfield 18), (2, .iload 4), (1, .iaload), (2, .istore 6), (2, .iload 5), (2, .iconst 15), (3, .if_icmp .ne 44), (2, .iload 6), (2, .iconst 20), (3, .if_icmp .le 44), (1, .iconst 0), (1, .ireturn)]),
  (44, [(1, .aload 0), (3, .getfield 1282), (3, .getfield 274), (1, .iload 2), (1, .iaload), (2, .istore 7), (1, .aload 0), (3, .getfield 1282), (3, .getfield 298), (2, .iload 6), (1, .iload 3), (1, .aload 1), (3, .getfield 8), (2, .iload 7), (3, .invokeinterface 387 21), (2, .istore 8), (2, .iload 5), (2, .iconst 14), (3, .if_icmp .ne 120), (1, .aload 1), (3, .getfield 18), (1, .aload 1), (2, .iload 4), (3, .invokeinterface 14 9), (1, .iaload), (2, .istore 9), (2, .iload 8), (1, .aload 0), (3, .getfield 1282), (3, .getfield 298), (2, .iload 9), (1, .iload 3), (1, .aload 1), (3, .getfield 8), (2, .iload 7), (3, .invokeinterface 387 21), (1, .iadd), (2, .istore 8)]),
  (120, [(2, .iload 5), (2, .iconst 16), (3, .if_icmp .ne 139), (2, .iload 6), (3, .ifCond .le 139), (2, .iload 8), (1, .iconst 1), (1, .iadd), (3, .goto 141)]),
  (139, [(2, .iload 8)]),
  (141, [(1, .ireturn)])])
def ax_m_6_0 : ax_M := (⟨"ShakingCourt$Reader", "<init>", "(LShakingCourt$Tokens;LShakingCourt$Court;)V"⟩, prog_8_method_1_code, 3, none, 2, [
  (0, [(1, .aload 0), (3, .invokedynamic 0), (1, .aload 0), (3, .new 1), (1, .dup), (3, .invokeinterface 128 6), (3, .putstatic 1546), (1, .aload 0), (3, .new 7), (1, .dup), (3, .invokeinterface 896 6), (3, .putstatic 1550), (1, .aload 0), (1, .aload 1), (3, .putstatic 1538), (1, .aload 0), (1, .aload 2), (3, .putstatic 1542), (1, .aload 0), (1, .aload 0), (3, .getfield 1546), (3, .getfield 294), (3, .putfield 1554), (1, .return_)])])
def ax_m_6_1 : ax_M := (⟨"ShakingCourt$Reader", "readCourt", "()I"⟩, prog_8_method_2_code, 3, (some .int), 1, [
  (0, [(1, .aload 0), (3, .getfield 1546), (3, .invokeinterface 129 5), (1, .aload 0), (3, .getfield 1538), (3, .invokeinterface 1154 5), (1, .iconst 1), (1, .istore 1), (1, .iconst 0), (1, .istore 2)]),
  (18, [(1, .iload 2), (3, .iconst 1000), (3, .if_icmp .gt 139), (1, .iload 1), (3, .ifCond .eq 139), (1, .aload 0), (3, .getfield 1538), (3, .getfield 2312), (2, .iconst 26), (3, .if_icmp .eq 139), (1, .aload 0), (3, .getfield 1538), (3, .getfield 2312), (44, .tableswitch 124 0 6 #[92, 100, 124, 124, 108, 116, 116])]),
  (92, [(1, .aload 0), (3, .invokeinterface 772 5), (1, .istore 1), (3, .goto 133)]),
  (100, [(1, .aload 0), (3, .invokeinterface 773 5), (1, .istore 1), (3, .goto 133)]),
  (108, [(1, .aload 0), (3, .invokeinterface 776 5), (1, .istore 1), (3, .goto 133)]),
  (116, [(1, .aload 0), (3, .invokeinterface 777 5), (1, .istore 1), (3, .goto 133)]),
  (124, [(1, .aload 0), (3, .getfield 1538), (1, .iconst 1), (3, .invokeinterface 1156 9), (1, .istore 1)]),
  (133, [(3, .iinc 2 1), (3, .goto 18)]),
  (139, [(1, .iload 1), (3, .ifCond .eq 150), (1, .aload 0), (3, .getfield 1546), (3, .invokeinterface 133 5)]),
  (150, [(1, .aload 0), (3, .getfield 1538), (3, .invokeinterface 1155 5), (1, .ireturn)])])
def ax_m_6_2 : ax_M := (⟨"ShakingCourt$Reader", "readReign", "()I"⟩, prog_8_method_3_code, 3, (some .int), 1, [
  (0, [(1, .aload 0), (3, .getfield 1550), (1, .iconst 0), (3, .putfield 1792), (1, .aload 0), (3, .getfield 1538), (3, .invokeinterface 1154 5), (1, .iconst 1), (1, .istore 1), (1, .iconst 0), (1, .istore 2)]),
  (19, [(1, .iload 2), (3, .iconst 1000), (3, .if_icmp .gt 53), (1, .iload 1), (3, .ifCond .eq 53), (1, .aload 0), (3, .getfield 1538), (3, .getfield 2312), (2, .iconst 26), (3, .if_icmp .eq 53), (1, .aload 0), (3, .invokeinterface 782 5), (1, .istore 1), (3, .iinc 2 1), (3, .goto 19)]),
  (53, [(1, .aload 0), (3, .getfield 1538), (3, .invokeinterface 1155 5), (1, .ireturn)])])
def ax_m_6_3 : ax_M := (⟨"ShakingCourt$Reader", "takeOnce", "()Z"⟩, prog_8_method_4_code, 1, (some .boolean), 1, [
  (0, [(1, .aload 0), (3, .getfield 1546), (1, .aload 0), (3, .getfield 1538), (3, .getfield 2312), (3, .invokeinterface 130 9), (3, .ifCond .eq 26), (1, .aload 0), (3, .getfield 1538), (1, .iconst 3), (3, .invokeinterface 1156 9), (1, .ireturn)]),
  (26, [(1, .aload 0), (3, .getfield 1546), (1, .aload 0), (3, .getfield 1538), (3, .getfield 2312), (3, .invokeinterface 131 9), (1, .aload 0), (3, .getfield 1538), (3, .invokeinterface 1160 5), (1, .iconst 1), (1, .ireturn)])])
def ax_m_6_4 : ax_M := (⟨"ShakingCourt$Reader", "readCells", "()Z"⟩, prog_8_method_5_code, 1, (some .boolean), 1, [
  (0, [(1, .aload 0), (3, .invokeinterface 771 5), (3, .ifCond .eq 20), (1, .aload 0), (3, .getfield 1538), (1, .iconst 3), (2, .iconst 12), (3, .invokeinterface 1158 13), (3, .ifCond .ne 22)]),
  (20, [(1, .iconst 0), (1, .ireturn)]),
  (22, [(1, .aload 0), (3, .getfield 1546), (1, .aload 0), (3, .getfield 1538), (3, .getfield 2324), (3, .putfield 256), (1, .aload 0), (3, .getfield 1538), (2, .iconst 59), (3, .invokeinterface 1157 9), (1, .ireturn)])])
def ax_m_6_5 : ax_M := (⟨"ShakingCourt$Reader", "readCourtier", "()Z"⟩, prog_8_method_6_code, 2, (some .boolean), 1, [
  (0, [(1, .aload 0), (3, .getfield 1546), (3, .getfield 260), (1, .istore 1), (1, .iload 1), (2, .iconst 6), (3, .if_icmp .lt 23), (1, .aload 0), (3, .getfield 1538), (1, .iconst 5), (3, .invokeinterface 1156 9), (1, .ireturn)]),
  (23, [(1, .aload 0), (3, .getfield 1538), (3, .invokeinterface 1160 5), (1, .aload 0), (1, .iload 1), (3, .invokeinterface 774 9), (3, .ifCond .eq 46), (1, .aload 0), (1, .iload 1), (3, .invokeinterface 775 9), (3, .ifCond .ne 48)]),
  (46, [(1, .iconst 0), (1, .ireturn)]),
  (48, [(1, .aload 0), (3, .getfield 1538), (1, .iconst 2), (3, .invokeinterface 1157 9), (3, .ifCond .eq 72), (1, .aload 0), (3, .getfield 1538), (1, .iconst 0), (2, .iconst 11), (3, .invokeinterface 1158 13), (3, .ifCond .ne 74)]),
  (72, [(1, .iconst 0), (1, .ireturn)]),
  (74, [(1, .aload 0), (3, .getfield 1546), (3, .getfield 270), (1, .iload 1), (1, .aload 0), (3, .getfield 1538), (3, .getfield 2324), (1, .iastore), (1, .aload 0), (3, .getfield 1538), (1, .iconst 3), (3, .invokeinterface 1157 9), (3, .ifCond .eq 114), (1, .aload 0), (3, .getfield 1538), (1, .iconst 0), (2, .iconst 9), (3, .invokeinterface 1158 13), (3, .ifCond .ne 116)]),
  (114, [(1, .iconst 0), (1, .ireturn)]),
  (116, [(1, .aload 0), (3, .getfield 1546), (3, .getfield 274), (1, .iload 1), (1, .aload 0), (3, .getfield 1538), (3, .getfield 2324), (1, .iastore), (1, .aload 0), (3, .getfield 1546), (1, .dup), (3, .getfield 260), (1, .iconst 1), (1, .iadd), (3, .putfield 260), (1, .aload 0), (3, .getfield 1538), (2, .iconst 59), (3, .invokeinterface 1157 9), (1, .ireturn)])])
def ax_m_6_6 : ax_M := (⟨"ShakingCourt$Reader", "takeNewName", "(I)Z"⟩, prog_8_method_7_code, 2, (some .boolean), 1, [
  (0, [(1, .aload 0), (3, .getfield 1538), (3, .invokeinterface 1159 5), (3, .ifCond .ne 19), (1, .aload 0), (3, .getfield 1538), (1, .iconst 1), (3, .invokeinterface 1156 9), (1, .ireturn)]),
  (19, [(1, .aload 0), (3, .getfield 1546), (1, .aload 0), (3, .getfield 1538), (3, .getfield 2321), (3, .invokeinterface 135 9), (1, .iconst (-1)), (3, .if_icmp .eq 46), (1, .aload 0), (3, .getfield 1538), (1, .iconst 3), (3, .invokeinterface 1156 9), (1, .ireturn)]),
  (46, [(1, .aload 0), (3, .getfield 1546), (3, .getfield 278), (1, .iload 1), (1, .aload 0), (3, .getfield 1538), (3, .getfield 2321), (1, .lastore), (1, .aload 0), (3, .getfield 1538), (3, .invokeinterface 1160 5), (1, .iconst 1), (1, .ireturn)])])
def ax_m_6_7 : ax_M := (⟨"ShakingCourt$Reader", "takeKind", "(I)Z"⟩, prog_8_method_8_code, 2, (some .boolean), 1, [
  (0, [(1, .aload 0), (3, .getfield 1538), (3, .getfield 2312), (2, .iconst 13), (2, .iconst 16), (3, .invokeinterface 1322 12), (3, .ifCond .ne 26), (1, .aload 0), (3, .getfield 1538), (1, .iconst 1), (3, .invokeinterface 1156 9), (1, .ireturn)]),
  (26, [(1, .aload 0), (3, .getfield 1546), (3, .getfield 266), (1, .iload 1), (1, .aload 0), (3, .getfield 1538), (3, .getfield 2312), (1, .iastore), (1, .aload 0), (3, .getfield 1538), (3, .invokeinterface 1160 5), (1, .iconst 1), (1, .ireturn)])])
def ax_m_6_8 : ax_M := (⟨"ShakingCourt$Reader", "readHeat", "()Z"⟩, prog_8_method_9_code, 2, (some .boolean), 1, [
  (0, [(1, .aload 0), (3, .invokeinterface 771 5), (3, .ifCond .ne 9), (1, .iconst 0), (1, .ireturn)]),
  (9, [(1, .aload 0), (3, .getfield 1546), (1, .iconst 0), (3, .putfield 284), (1, .iconst 0), (1, .istore 1)]),
  (19, [(1, .iload 1), (2, .iconst 12), (3, .if_icmp .ge 90), (1, .iload 1), (3, .ifCond .eq 41), (1, .aload 0), (3, .getfield 1538), (3, .getfield 2312), (2, .iconst 25), (3, .if_icmp .ne 90)]),
  (41, [(1, .aload 0), (3, .getfield 1538), (1, .iconst 0), (1, .iconst 5), (3, .invokeinterface 1158 13), (3, .ifCond .ne 55), (1, .iconst 0), (1, .ireturn)]),
  (55, [(1, .aload 0), (3, .getfield 1546), (3, .getfield 282), (1, .iload 1), (1, .aload 0), (3, .getfield 1538), (3, .getfield 2324), (1, .iastore), (1, .aload 0), (3, .getfield 1546), (1, .dup), (3, .getfield 284), (1, .iconst 1), (1, .iadd), (3, .putfield 284), (3, .iinc 1 1), (3, .goto 19)]),
  (90, [(1, .aload 0), (3, .getfield 1538), (3, .getfield 2312), (2, .iconst 25), (3, .if_icmp .ne 130), (1, .aload 0), (3, .getfield 1538), (1, .aload 0), (3, .getfield 1538), (3, .getfield 2316), (1, .iconst 0), (1, .iconst 5), (3, .invokeinterface 1322 12), (3, .ifCond .eq 125), (1, .iconst 5), (3, .goto 126)]),
  (125, [(1, .iconst 4)]),
  (126, [(3, .invokeinterface 1156 9), (1, .ireturn)]),
  (130, [(1, .aload 0), (3, .getfield 1538), (2, .iconst 59), (3, .invokeinterface 1157 9), (1, .ireturn)])])
def ax_m_6_9 : ax_M := (⟨"ShakingCourt$Reader", "readLaw", "()Z"⟩, prog_8_method_10_code, 2, (some .boolean), 1, [
  (0, [(1, .aload 0), (3, .getfield 1538), (3, .getfield 2312), (1, .istore 1), (1, .aload 0), (3, .invokeinterface 771 5), (3, .ifCond .ne 17), (1, .iconst 0), (1, .ireturn)]),
  (17, [(1, .aload 0), (1, .aload 0), (3, .getfield 1546), (1, .iload 1), (3, .invokeinterface 132 9), (3, .putfield 1554), (1, .aload 0), (1, .iload 1), (2, .iconst 6), (3, .if_icmp .ne 40), (1, .iconst 1), (3, .goto 41)]),
  (40, [(1, .iconst 0)]),
  (41, [(3, .putfield 1559), (1, .aload 0), (1, .iconst 0), (1, .iconst 0), (3, .invokeinterface 778 13), (3, .ifCond .eq 69), (1, .aload 0), (3, .getfield 1538), (2, .iconst 59), (3, .invokeinterface 1157 9), (3, .ifCond .eq 69), (1, .iconst 1), (3, .goto 70)]),
  (69, [(1, .iconst 0)]),
  (70, [(1, .ireturn)])])
def ax_m_6_10 : ax_M := (⟨"ShakingCourt$Reader", "readLevel", "(II)Z"⟩, prog_8_method_11_code, 6, (some .boolean), 1, [
  (0, [(1, .iload 1), (1, .iconst 4), (3, .if_icmp .lt 11), (1, .aload 0), (1, .iload 2), (3, .invokeinterface 780 9), (1, .ireturn)]),
  (11, [(1, .aload 0), (1, .iload 1), (1, .iconst 1), (1, .iadd), (1, .iload 2), (3, .invokeinterface 778 13), (3, .ifCond .ne 24), (1, .iconst 0), (1, .ireturn)]),
  (24, [(1, .iload 1), (1, .iconst 1), (3, .if_icmp .ne 33), (1, .iconst 1), (3, .goto 36)]),
  (33, [(3, .iconst 1000)]),
  (36, [(1, .istore 3), (1, .iconst 0), (2, .istore 4)]),
  (40, [(2, .iload 4), (1, .iload 3), (3, .if_icmp .ge 106), (1, .aload 0), (3, .getfield 1538), (3, .getfield 2312), (3, .invokeinterface 779 4), (1, .iload 1), (3, .if_icmp .ne 106), (1, .aload 0), (3, .getfield 1538), (3, .getfield 2312), (2, .istore 5), (1, .aload 0), (3, .getfield 1538), (3, .invokeinterface 1160 5), (1, .aload 0), (1, .iload 1), (1, .iconst 1), (1, .iadd), (1, .iload 2), (3, .invokeinterface 778 13), (3, .ifCond .ne 89), (1, .iconst 0), (1, .ireturn)]),
  (89, [(1, .aload 0), (3, .getfield 1554), (2, .iload 5), (1, .iconst (-1)), (1, .ixor), (3, .invokeinterface 386 9), (3, .iinc 4 1), (3, .goto 40)]),
  (106, [(1, .iconst 1), (1, .ireturn)])])
def ax_m_6_11 : ax_M := (⟨"ShakingCourt$Reader", "levelOf", "(I)I"⟩, prog_8_method_12_code, 1, (some .int), 0, [
  (0, [(1, .iload 0), (67, .lookupswitch 76 #[(18, 68), (19, 68), (42, 74), (43, 72), (45, 72), (60, 70), (61, 70)])]),
  (68, [(1, .iconst 0), (1, .ireturn)]),
  (70, [(1, .iconst 1), (1, .ireturn)]),
  (72, [(1, .iconst 2), (1, .ireturn)]),
  (74, [(1, .iconst 3), (1, .ireturn)]),
  (76, [(1, .iconst (-1)), (1, .ireturn)])])
def ax_m_6_12 : ax_M := (⟨"ShakingCourt$Reader", "readPart", "(I)Z"⟩, prog_8_method_13_code, 4, (some .boolean), 1, [
  (0, [(1, .aload 0), (3, .getfield 1538), (3, .getfield 2312), (1, .istore 2), (1, .aload 0), (1, .iload 2), (3, .invokeinterface 781 9), (3, .ifCond .ne 25), (1, .aload 0), (3, .getfield 1538), (1, .iconst 1), (3, .invokeinterface 1156 9), (1, .ireturn)]),
  (25, [(1, .iload 1), (1, .iconst 5), (3, .if_icmp .lt 39), (1, .aload 0), (3, .getfield 1538), (1, .iconst 5), (3, .invokeinterface 1156 9), (1, .ireturn)]),
  (39, [(1, .aload 0), (3, .getfield 1538), (3, .getfield 2316), (1, .istore 3), (1, .aload 0), (3, .getfield 1538), (3, .invokeinterface 1160 5), (1, .iload 2), (2, .iconst 40), (3, .if_icmp .ne 103), (1, .aload 0), (1, .iconst 0), (1, .iload 1), (1, .iconst 1), (1, .iadd), (3, .invokeinterface 778 13), (3, .ifCond .ne 73), (1, .iconst 0), (1, .ireturn)]),
  (73, [(1, .aload 0), (3, .getfield 1538), (3, .getfield 2312), (2, .iconst 41), (3, .if_icmp .eq 94), (1, .aload 0), (3, .getfield 1538), (1, .iconst 1), (3, .invokeinterface 1156 9), (1, .ireturn)]),
  (94, [(1, .aload 0), (3, .getfield 1538), (3, .invokeinterface 1160 5), (1, .iconst 1), (1, .ireturn)]),
  (103, [(1, .iload 2), (2, .iconst 17), (3, .if_icmp .ne 121), (1, .aload 0), (1, .iload 1), (1, .iconst 1), (1, .iadd), (3, .invokeinterface 780 9), (3, .ifCond .ne 121), (1, .iconst 0), (1, .ireturn)]),
  (121, [(1, .aload 0), (3, .getfield 1554), (1, .iload 2), (2, .iconst 25), (3, .if_icmp .ne 135), (1, .iload 3), (3, .goto 138)]),
  (135, [(1, .iload 2), (1, .iconst (-1)), (1, .ixor)]),
  (138, [(3, .invokeinterface 386 9), (1, .iconst 1), (1, .ireturn)])])
def ax_m_6_13 : ax_M := (⟨"ShakingCourt$Reader", "startsPart", "(I)Z"⟩, prog_8_method_14_code, 2, (some .boolean), 1, [
  (0, [(1, .iload 1), (59, .lookupswitch 62 #[(17, 60), (20, 60), (21, 60), (22, 60), (25, 60), (40, 60)])]),
  (60, [(1, .iconst 1), (1, .ireturn)]),
  (62, [(1, .iload 1), (2, .iconst 23), (3, .if_icmp .ne 79), (1, .aload 0), (3, .getfield 1559), (3, .ifCond .eq 79), (1, .iconst 1), (3, .goto 80)]),
  (79, [(1, .iconst 0)]),
  (80, [(1, .ireturn)])])
def ax_m_6_14 : ax_M := (⟨"ShakingCourt$Reader", "readReignLine", "()Z"⟩, prog_8_method_15_code, 2, (some .boolean), 1, [
  (0, [(1, .aload 0), (3, .getfield 1538), (3, .getfield 2312), (1, .istore 1), (1, .iload 1), (2, .iconst 7), (2, .iconst 12), (3, .invokeinterface 1322 12), (3, .ifCond .ne 28), (1, .aload 0), (3, .getfield 1538), (1, .iconst 1), (3, .invokeinterface 1156 9), (1, .ireturn)]),
  (28, [(1, .aload 0), (3, .getfield 1550), (3, .getfield 1792), (2, .iconst 40), (3, .if_icmp .lt 49), (1, .aload 0), (3, .getfield 1538), (1, .iconst 5), (3, .invokeinterface 1156 9), (1, .ireturn)]),
  (49, [(1, .aload 0), (3, .getfield 1538), (3, .invokeinterface 1160 5), (1, .iload 1), (35, .tableswitch 108 7 11 #[92, 102, 102, 108, 97])]),
  (92, [(1, .aload 0), (3, .invokeinterface 783 5), (1, .ireturn)]),
  (97, [(1, .aload 0), (3, .invokeinterface 785 5), (1, .ireturn)]),
  (102, [(1, .aload 0), (1, .iload 1), (3, .invokeinterface 784 9), (1, .ireturn)]),
  (108, [(1, .aload 0), (3, .getfield 1550), (1, .iload 1), (1, .iconst 0), (1, .iconst 0), (3, .invokeinterface 898 17), (1, .aload 0), (3, .getfield 1538), (2, .iconst 59), (3, .invokeinterface 1157 9), (1, .ireturn)])])
def ax_m_6_15 : ax_M := (⟨"ShakingCourt$Reader", "readTouch", "()Z"⟩, prog_8_method_16_code, 2, (some .boolean), 1, [
  (0, [(1, .aload 0), (3, .getfield 1538), (1, .iconst 0), (2, .iconst 11), (3, .invokeinterface 1158 13), (3, .ifCond .ne 15), (1, .iconst 0), (1, .ireturn)]),
  (15, [(1, .aload 0), (3, .getfield 1538), (3, .getfield 2324), (1, .istore 1), (1, .aload 0), (3, .getfield 1538), (1, .iconst 1), (2, .iconst 20), (3, .invokeinterface 1158 13), (3, .ifCond .ne 38), (1, .iconst 0), (1, .ireturn)]),
  (38, [(1, .aload 0), (3, .getfield 1550), (2, .iconst 7), (1, .iload 1), (1, .aload 0), (3, .getfield 1538), (3, .getfield 2324), (3, .invokeinterface 898 17), (1, .aload 0), (3, .getfield 1538), (2, .iconst 59), (3, .invokeinterface 1157 9), (1, .ireturn)])])
def ax_m_6_16 : ax_M := (⟨"ShakingCourt$Reader", "readCellAct", "(I)Z"⟩, prog_8_method_17_code, 2, (some .boolean), 1, [
  (0, [(1, .aload 0), (3, .getfield 1538), (1, .iconst 0), (2, .iconst 11), (3, .invokeinterface 1158 13), (3, .ifCond .ne 15), (1, .iconst 0), (1, .ireturn)]),
  (15, [(1, .aload 0), (3, .getfield 1550), (1, .iload 1), (1, .aload 0), (3, .getfield 1538), (3, .getfield 2324), (1, .iconst 0), (3, .invokeinterface 898 17), (1, .aload 0), (3, .getfield 1538), (2, .iconst 59), (3, .invokeinterface 1157 9), (1, .ireturn)])])
def ax_m_6_17 : ax_M := (⟨"ShakingCourt$Reader", "readChange", "()Z"⟩, prog_8_method_18_code, 2, (some .boolean), 1, [
  (0, [(1, .aload 0), (3, .invokeinterface 786 5), (3, .ifCond .ne 9), (1, .iconst 0), (1, .ireturn)]),
  (9, [(1, .aload 0), (3, .getfield 1538), (3, .getfield 2324), (1, .istore 1), (1, .aload 0), (3, .getfield 1538), (3, .invokeinterface 1159 5), (3, .ifCond .eq 54), (1, .aload 0), (3, .getfield 1542), (1, .aload 0), (3, .getfield 1538), (3, .getfield 2321), (3, .invokeinterface 135 9), (1, .iload 1), (3, .if_icmp .ne 54), (1, .aload 0), (3, .getfield 1538), (1, .iconst 3), (3, .invokeinterface 1156 9), (1, .ireturn)]),
  (54, [(1, .aload 0), (3, .invokeinterface 786 5), (3, .ifCond .ne 63), (1, .iconst 0), (1, .ireturn)]),
  (63, [(1, .aload 0), (3, .getfield 1550), (2, .iconst 11), (1, .iload 1), (1, .aload 0), (3, .getfield 1538), (3, .getfield 2324), (3, .invokeinterface 898 17), (1, .aload 0), (3, .getfield 1538), (2, .iconst 59), (3, .invokeinterface 1157 9), (1, .ireturn)])])
def ax_m_6_18 : ax_M := (⟨"ShakingCourt$Reader", "takeToldName", "()Z"⟩, prog_8_method_19_code, 2, (some .boolean), 1, [
  (0, [(1, .aload 0), (3, .getfield 1538), (3, .invokeinterface 1159 5), (3, .ifCond .ne 19), (1, .aload 0), (3, .getfield 1538), (1, .iconst 1), (3, .invokeinterface 1156 9), (1, .ireturn)]),
  (19, [(1, .aload 0), (3, .getfield 1542), (1, .aload 0), (3, .getfield 1538), (3, .getfield 2321), (3, .invokeinterface 135 9), (1, .istore 1), (1, .iload 1), (1, .iconst (-1)), (3, .if_icmp .ne 48), (1, .aload 0), (3, .getfield 1538), (1, .iconst 2), (3, .invokeinterface 1156 9), (1, .ireturn)]),
  (48, [(1, .aload 0), (3, .getfield 1538), (1, .iload 1), (3, .putfield 2324), (1, .aload 0), (3, .getfield 1538), (3, .invokeinterface 1160 5), (1, .iconst 1), (1, .ireturn)])])
def ax_m_7_0 : ax_M := (⟨"ShakingCourt$Reign", "<init>", "()V"⟩, prog_9_method_1_code, 1, none, 2, [
  (0, [(1, .aload 0), (3, .invokedynamic 0), (1, .aload 0), (2, .iconst 40), (2, .newarray .int), (3, .putstatic 1798), (1, .aload 0), (2, .iconst 40), (2, .newarray .int), (3, .putstatic 1802), (1, .aload 0), (2, .iconst 40), (2, .newarray .int), (3, .putstatic 1806), (1, .return_)])])
def ax_m_7_1 : ax_M := (⟨"ShakingCourt$Reign", "copy", "(LShakingCourt$Reign;)V"⟩, prog_9_method_2_code, 2, none, 1, [
  (0, [(1, .aload 0), (1, .aload 1), (3, .getfield 1792), (3, .putfield 1792), (1, .aload 1), (3, .getfield 1798), (1, .iconst 0), (1, .aload 0), (3, .getfield 1798), (1, .iconst 0), (2, .iconst 40), (3, .invokedynamic 1), (1, .aload 1), (3, .getfield 1802), (1, .iconst 0), (1, .aload 0), (3, .getfield 1802), (1, .iconst 0), (2, .iconst 40), (3, .invokedynamic 1), (1, .aload 1), (3, .getfield 1806), (1, .iconst 0), (1, .aload 0), (3, .getfield 1806), (1, .iconst 0), (2, .iconst 40), (3, .invokedynamic 1), (1, .return_)])])
def ax_m_7_2 : ax_M := (⟨"ShakingCourt$Reign", "add", "(III)V"⟩, prog_9_method_3_code, 4, none, 1, [
  (0, [(1, .aload 0), (3, .getfield 1792), (2, .iconst 40), (3, .if_icmp .ge 49), (1, .aload 0), (3, .getfield 1798), (1, .aload 0), (3, .getfield 1792), (1, .iload 1), (1, .iastore), (1, .aload 0), (3, .getfield 1802), (1, .aload 0), (3, .getfield 1792), (1, .iload 2), (1, .iastore), (1, .aload 0), (3, .getfield 1806), (1, .aload 0), (3, .getfield 1792), (1, .iload 3), (1, .iastore), (1, .aload 0), (1, .dup), (3, .getfield 1792), (1, .iconst 1), (1, .iadd), (3, .putfield 1792)]),
  (49, [(1, .return_)])])
def ax_m_8_0 : ax_M := (⟨"ShakingCourt$Seer", "<init>", "(LShakingCourt$Play;LShakingCourt$Bowl;LShakingCourt$Felt;)V"⟩, prog_10_method_1_code, 4, none, 2, [
  (0, [(1, .aload 0), (3, .invokedynamic 0), (1, .aload 0), (3, .new 0), (1, .dup), (3, .invokeinterface 0 6), (3, .putstatic 2062), (1, .aload 0), (3, .new 0), (1, .dup), (3, .invokeinterface 0 6), (3, .putstatic 2066), (1, .aload 0), (3, .iconst 1200), (2, .newarray .int), (3, .putstatic 2070), (1, .aload 0), (1, .aload 1), (3, .putstatic 2050), (1, .aload 0), (1, .aload 2), (3, .putstatic 2054), (1, .aload 0), (1, .aload 3), (3, .putstatic 2058), (1, .return_)])])
def ax_m_8_1 : ax_M := (⟨"ShakingCourt$Seer", "judge", "(LShakingCourt$Court;LShakingCourt$Reign;I)I"⟩, prog_10_method_2_code, 7, (some .int), 1, [
  (0, [(1, .iconst (-1)), (2, .istore 4), (1, .iconst (-1)), (2, .istore 5), (1, .aload 0), (3, .getfield 2062), (1, .aload 1), (3, .invokeinterface 1 9), (1, .iconst 0), (2, .istore 6)]),
  (17, [(2, .iload 6), (1, .aload 2), (3, .getfield 1792), (3, .if_icmp .ge 152), (1, .aload 2), (3, .getfield 1798), (2, .iload 6), (1, .iaload), (2, .iconst 12), (3, .if_icmp .ne 54), (1, .aload 0), (3, .getfield 2050), (1, .aload 0), (3, .getfield 2062), (1, .iconst 1), (3, .invokeinterface 642 13), (1, .pop), (3, .goto 126)]),
  (54, [(1, .aload 0), (3, .getfield 2062), (1, .aload 2), (3, .getfield 1798), (2, .iload 6), (1, .iaload), (1, .aload 2), (3, .getfield 1802), (2, .iload 6), (1, .iaload), (1, .aload 2), (3, .getfield 1806), (2, .iload 6), (1, .iaload), (3, .invokeinterface 7 17), (3, .ifCond .eq 116), (1, .aload 0), (3, .getfield 2062), (1, .aload 2), (3, .getfield 1798), (2, .iload 6), (1, .iaload), (1, .aload 2), (3, .getfield 1802), (2, .iload 6), (1, .iaload), (1, .aload 2), (3, .getfield 1806), (2, .iload 6), (1, .iaload), (3, .invokeinterface 8 17), (3, .goto 126)]),
  (116, [(2, .iload 4), (1, .iconst (-1)), (3, .if_icmp .ne 126), (2, .iload 6), (2, .istore 4)]),
  (126, [(2, .iload 5), (1, .iconst (-1)), (3, .if_icmp .ne 146), (1, .aload 0), (3, .getfield 2062), (3, .invokeinterface 18 5), (3, .ifCond .eq 146), (2, .iload 6), (2, .istore 5)]),
  (146, [(3, .iinc 6 1), (3, .goto 17)]),
  (152, [(1, .iload 3), (1, .iconst 2), (3, .if_icmp .ne 165), (1, .aload 0), (3, .getfield 2062), (3, .invokeinterface 16 5), (1, .ireturn)]),
  (165, [(1, .iload 3), (3, .ifCond .ne 174), (2, .iload 4), (3, .goto 176)]),
  (174, [(2, .iload 5)]),
  (176, [(1, .ireturn)])])
def ax_m_8_2 : ax_M := (⟨"ShakingCourt$Seer", "shakeBehind", "(II)I"⟩, prog_10_method_3_code, 3, (some .int), 1, [
  (0, [(1, .aload 0), (3, .getfield 2062), (1, .aload 0), (3, .getfield 2054), (3, .invokeinterface 2 9), (1, .aload 0), (3, .getfield 2050), (1, .aload 0), (3, .getfield 2062), (1, .iload 2), (3, .invokeinterface 643 13), (1, .aload 0), (3, .getfield 2062), (3, .getfield 18), (1, .iload 1), (1, .iaload), (1, .ireturn)])])
def ax_m_8_3 : ax_M := (⟨"ShakingCourt$Seer", "firstStill", "()I"⟩, prog_10_method_4_code, 2, (some .int), 1, [
  (0, [(1, .aload 0), (3, .getfield 2062), (1, .aload 0), (3, .getfield 2054), (3, .invokeinterface 2 9), (1, .iconst 0), (1, .istore 1)]),
  (13, [(1, .iload 1), (2, .iconst 60), (3, .if_icmp .gt 49), (1, .aload 0), (3, .getfield 2062), (3, .invokeinterface 17 5), (3, .ifCond .ne 31), (1, .iload 1), (1, .ireturn)]),
  (31, [(1, .aload 0), (3, .getfield 2050), (1, .aload 0), (3, .getfield 2062), (1, .iconst 1), (3, .invokeinterface 643 13), (3, .iinc 1 1), (3, .goto 13)]),
  (49, [(1, .iconst (-1)), (1, .ireturn)])])
def ax_m_8_4 : ax_M := (⟨"ShakingCourt$Seer", "firstPeak", "(I)I"⟩, prog_10_method_5_code, 5, (some .int), 1, [
  (0, [(1, .aload 0), (3, .getfield 2062), (1, .aload 0), (3, .getfield 2054), (3, .invokeinterface 2 9), (1, .iconst 0), (1, .istore 2), (1, .aload 0), (3, .getfield 2062), (3, .getfield 18), (1, .iload 1), (1, .iaload), (1, .istore 3), (1, .iconst 1), (2, .istore 4)]),
  (26, [(2, .iload 4), (2, .iconst 60), (3, .if_icmp .gt 77), (1, .aload 0), (3, .getfield 2050), (1, .aload 0), (3, .getfield 2062), (1, .iconst 1), (3, .invokeinterface 643 13), (1, .aload 0), (3, .getfield 2062), (3, .getfield 18), (1, .iload 1), (1, .iaload), (1, .iload 3), (3, .if_icmp .le 71), (1, .aload 0), (3, .getfield 2062), (3, .getfield 18), (1, .iload 1), (1, .iaload), (1, .istore 3), (2, .iload 4), (1, .istore 2)]),
  (71, [(3, .iinc 4 1), (3, .goto 26)]),
  (77, [(1, .iload 2), (1, .ireturn)])])
def ax_m_8_5 : ax_M := (⟨"ShakingCourt$Seer", "totalOf", "(II)I"⟩, prog_10_method_6_code, 3, (some .int), 1, [
  (0, [(1, .aload 0), (3, .getfield 2062), (1, .aload 0), (3, .getfield 2054), (3, .invokeinterface 2 9), (1, .aload 0), (3, .getfield 2050), (1, .aload 0), (3, .getfield 2062), (1, .iload 2), (3, .invokeinterface 642 13), (1, .pop), (1, .aload 0), (3, .getfield 2062), (3, .getfield 26), (1, .iload 1), (1, .iaload), (1, .aload 0), (3, .getfield 2054), (3, .getfield 26), (1, .iload 1), (1, .iaload), (1, .isub), (1, .ireturn)])])
def ax_m_8_6 : ax_M := (⟨"ShakingCourt$Seer", "leastTouch", "(IIII)I"⟩, prog_10_method_7_code, 7, (some .int), 1, [
  (0, [(1, .iconst 1), (2, .istore 5)]),
  (3, [(2, .iload 5), (2, .iconst 20), (3, .if_icmp .gt 98), (1, .iconst 0), (2, .istore 6)]),
  (13, [(2, .iload 6), (1, .aload 0), (3, .getfield 2054), (3, .getfield 0), (3, .if_icmp .ge 92), (1, .aload 0), (3, .getfield 2054), (2, .iload 6), (3, .invokeinterface 4 9), (3, .ifCond .eq 40), (3, .goto 86)]),
  (40, [(1, .aload 0), (2, .iload 6), (2, .iload 5), (3, .invokeinterface 1031 13), (1, .aload 0), (3, .getfield 2050), (1, .aload 0), (3, .getfield 2062), (1, .iload 2), (3, .invokeinterface 643 13), (1, .aload 0), (3, .getfield 2062), (3, .getfield 18), (1, .iload 1), (1, .iaload), (1, .iload 3), (3, .if_icmp .lt 86), (2, .iload 4), (3, .ifCond .ne 83), (2, .iload 5), (3, .goto 85)]),
  (83, [(2, .iload 6)]),
  (85, [(1, .ireturn)]),
  (86, [(3, .iinc 6 1), (3, .goto 13)]),
  (92, [(3, .iinc 5 1), (3, .goto 3)]),
  (98, [(1, .iconst (-1)), (1, .ireturn)])])
def ax_m_8_7 : ax_M := (⟨"ShakingCourt$Seer", "tryTouch", "(II)V"⟩, prog_10_method_8_code, 3, none, 1, [
  (0, [(1, .aload 0), (3, .getfield 2062), (1, .aload 0), (3, .getfield 2054), (3, .invokeinterface 2 9), (1, .aload 0), (3, .getfield 2062), (1, .iload 1), (1, .iload 2), (3, .invokeinterface 9 13), (1, .return_)])])
def ax_m_8_8 : ax_M := (⟨"ShakingCourt$Seer", "bestFork", "(I)I"⟩, prog_10_method_9_code, 5, (some .int), 1, [
  (0, [(1, .iconst (-1)), (1, .istore 2), (1, .iconst 0), (1, .istore 3), (1, .iconst 0), (2, .istore 4)]),
  (7, [(2, .iload 4), (1, .aload 0), (3, .getfield 2054), (3, .getfield 0), (3, .if_icmp .ge 105), (1, .aload 0), (3, .getfield 2054), (2, .iload 4), (3, .invokeinterface 4 9), (3, .ifCond .eq 34), (3, .goto 99)]),
  (34, [(1, .aload 0), (3, .getfield 2062), (1, .aload 0), (3, .getfield 2054), (3, .invokeinterface 2 9), (1, .aload 0), (3, .getfield 2062), (2, .iload 4), (3, .invokeinterface 11 9), (1, .aload 0), (3, .getfield 2050), (1, .aload 0), (3, .getfield 2062), (2, .iconst 20), (3, .invokeinterface 642 13), (1, .pop), (1, .iload 2), (1, .iconst (-1)), (3, .if_icmp .eq 86), (1, .aload 0), (3, .getfield 2062), (3, .getfield 26), (1, .iload 1), (1, .iaload), (1, .iload 3), (3, .if_icmp .ge 99)]),
  (86, [(2, .iload 4), (1, .istore 2), (1, .aload 0), (3, .getfield 2062), (3, .getfield 26), (1, .iload 1), (1, .iaload), (1, .istore 3)]),
  (99, [(3, .iinc 4 1), (3, .goto 7)]),
  (105, [(1, .iload 2), (1, .ireturn)])])
def ax_m_8_9 : ax_M := (⟨"ShakingCourt$Seer", "bestChange", "()I"⟩, prog_10_method_10_code, 6, (some .int), 1, [
  (0, [(1, .aload 0), (3, .getfield 2062), (1, .aload 0), (3, .getfield 2054), (3, .invokeinterface 2 9), (1, .aload 0), (3, .getfield 2050), (1, .aload 0), (3, .getfield 2062), (2, .iconst 20), (3, .invokeinterface 642 13), (1, .istore 1), (1, .iconst (-1)), (1, .istore 2), (1, .iconst 0), (1, .istore 3)]),
  (29, [(1, .iload 3), (1, .aload 0), (3, .getfield 2054), (3, .getfield 4), (3, .if_icmp .ge 122), (1, .iload 3), (1, .iconst 1), (1, .iadd), (2, .istore 4)]),
  (45, [(2, .iload 4), (1, .aload 0), (3, .getfield 2054), (3, .getfield 4), (3, .if_icmp .ge 116), (1, .aload 0), (3, .getfield 2062), (1, .aload 0), (3, .getfield 2054), (3, .invokeinterface 2 9), (1, .aload 0), (3, .getfield 2062), (1, .iload 3), (2, .iload 4), (3, .invokeinterface 13 13), (1, .aload 0), (3, .getfield 2050), (1, .aload 0), (3, .getfield 2062), (2, .iconst 20), (3, .invokeinterface 642 13), (2, .istore 5), (2, .iload 5), (1, .iload 1), (3, .if_icmp .le 110), (2, .iload 5), (1, .istore 1), (2, .iconst 8), (1, .iload 3), (1, .imul), (2, .iload 4), (1, .iadd), (1, .istore 2)]),
  (110, [(3, .iinc 4 1), (3, .goto 45)]),
  (116, [(3, .iinc 3 1), (3, .goto 29)]),
  (122, [(1, .iload 2), (1, .ireturn)])])
def ax_m_8_10 : ax_M := (⟨"ShakingCourt$Seer", "bestPlace", "(I)I"⟩, prog_10_method_11_code, 5, (some .int), 1, [
  (0, [(1, .iconst (-1)), (1, .istore 2), (1, .iconst 0), (1, .istore 3), (1, .iconst 0), (2, .istore 4)]),
  (7, [(2, .iload 4), (1, .aload 0), (3, .getfield 2054), (3, .getfield 0), (3, .if_icmp .ge 92), (1, .aload 0), (3, .getfield 2062), (1, .aload 0), (3, .getfield 2054), (3, .invokeinterface 2 9), (1, .aload 0), (3, .getfield 2062), (3, .getfield 22), (1, .iload 1), (2, .iload 4), (1, .iastore), (1, .aload 0), (3, .getfield 2050), (1, .aload 0), (3, .getfield 2062), (2, .iconst 20), (3, .invokeinterface 642 13), (1, .pop), (1, .iload 2), (1, .iconst (-1)), (3, .if_icmp .eq 73), (1, .aload 0), (3, .getfield 2062), (3, .getfield 26), (1, .iload 1), (1, .iaload), (1, .iload 3), (3, .if_icmp .le 86)]),
  (73, [(2, .iload 4), (1, .istore 2), (1, .aload 0), (3, .getfield 2062), (3, .getfield 26), (1, .iload 1), (1, .iaload), (1, .istore 3)]),
  (86, [(3, .iinc 4 1), (3, .goto 7)]),
  (92, [(1, .iload 2), (1, .ireturn)])])
def ax_m_8_11 : ax_M := (⟨"ShakingCourt$Seer", "allWays", "(I)I"⟩, prog_10_method_12_code, 8, (some .int), 1, [
  (0, [(1, .iconst 0), (1, .istore 2), (1, .iconst 0), (1, .istore 3), (1, .iconst (-1)), (2, .istore 4), (1, .iconst (-1)), (2, .istore 5), (1, .iconst 1), (2, .istore 6)]),
  (13, [(2, .iload 6), (2, .iconst 20), (3, .if_icmp .gt 87), (1, .iconst 0), (2, .istore 7)]),
  (23, [(2, .iload 7), (1, .aload 0), (3, .getfield 2054), (3, .getfield 0), (3, .if_icmp .ge 81), (1, .aload 0), (2, .iload 7), (2, .iload 6), (3, .invokeinterface 1036 13), (3, .ifCond .eq 75), (3, .iinc 2 1), (1, .iload 3), (1, .iconst 1), (2, .iload 7), (1, .ishl), (1, .ior), (1, .istore 3), (2, .iload 4), (1, .iconst (-1)), (3, .if_icmp .ne 67), (2, .iload 6), (3, .goto 69)]),
  (67, [(2, .iload 4)]),
  (69, [(2, .istore 4), (2, .iload 6), (2, .istore 5)]),
  (75, [(3, .iinc 7 1), (3, .goto 23)]),
  (81, [(3, .iinc 6 1), (3, .goto 13)]),
  (87, [(1, .iload 1), (28, .tableswitch 123 0 2 #[116, 118, 120])]),
  (116, [(1, .iload 2), (1, .ireturn)]),
  (118, [(1, .iload 3), (1, .ireturn)]),
  (120, [(2, .iload 4), (1, .ireturn)]),
  (123, [(2, .iload 5), (1, .ireturn)])])
def ax_m_8_12 : ax_M := (⟨"ShakingCourt$Seer", "isWay", "(II)Z"⟩, prog_10_method_13_code, 5, (some .boolean), 1, [
  (0, [(1, .aload 0), (3, .getfield 2054), (1, .iload 1), (3, .invokeinterface 4 9), (3, .ifCond .eq 13), (1, .iconst 0), (1, .ireturn)]),
  (13, [(1, .aload 0), (1, .iload 1), (1, .iload 2), (3, .invokeinterface 1031 13), (1, .aload 0), (3, .getfield 2058), (3, .invokeinterface 259 5), (1, .istore 3), (1, .iconst 0), (2, .istore 4)]),
  (30, [(2, .iload 4), (1, .iload 3), (3, .if_icmp .gt 72), (1, .aload 0), (3, .getfield 2058), (1, .aload 0), (3, .getfield 2062), (2, .iload 4), (3, .invokeinterface 260 13), (3, .ifCond .ne 54), (1, .iconst 0), (1, .ireturn)]),
  (54, [(1, .aload 0), (3, .getfield 2050), (1, .aload 0), (3, .getfield 2062), (1, .iconst 1), (3, .invokeinterface 643 13), (3, .iinc 4 1), (3, .goto 30)]),
  (72, [(1, .iconst 1), (1, .ireturn)])])
def ax_m_8_13 : ax_M := (⟨"ShakingCourt$Seer", "bestFeel", "(I)I"⟩, prog_10_method_14_code, 7, (some .int), 1, [
  (0, [(1, .aload 0), (3, .getfield 2070), (1, .iconst 0), (3, .invokeinterface 1920 8), (1, .iconst 0), (1, .istore 2), (1, .iconst 0), (1, .istore 3)]),
  (12, [(1, .iload 3), (1, .aload 0), (3, .getfield 2054), (3, .getfield 0), (3, .if_icmp .ge 81), (1, .iconst 1), (2, .istore 4)]),
  (26, [(2, .iload 4), (2, .iconst 20), (3, .if_icmp .gt 75), (1, .aload 0), (1, .iload 3), (2, .iload 4), (3, .invokeinterface 1036 13), (3, .ifCond .eq 69), (3, .iinc 2 1), (1, .aload 0), (1, .iload 3), (2, .iload 4), (3, .invokeinterface 1031 13), (1, .aload 0), (3, .getfield 2050), (1, .aload 0), (3, .getfield 2062), (1, .iload 1), (3, .invokeinterface 643 13), (1, .aload 0), (3, .invokeinterface 1038 5)]),
  (69, [(3, .iinc 4 1), (3, .goto 26)]),
  (75, [(3, .iinc 3 1), (3, .goto 12)]),
  (81, [(1, .iconst (-1)), (1, .istore 3), (1, .iload 2), (2, .istore 4), (1, .iconst 0), (2, .istore 5)]),
  (89, [(2, .iload 5), (1, .aload 0), (3, .getfield 2054), (3, .getfield 0), (3, .if_icmp .ge 129), (1, .aload 0), (2, .iload 5), (3, .invokeinterface 1039 9), (2, .istore 6), (2, .iload 6), (2, .iload 4), (3, .if_icmp .ge 123), (2, .iload 6), (2, .istore 4), (2, .iload 5), (1, .istore 3)]),
  (123, [(3, .iinc 5 1), (3, .goto 89)]),
  (129, [(1, .iload 3), (1, .ireturn)])])
def ax_m_8_14 : ax_M := (⟨"ShakingCourt$Seer", "tallyTrial", "()V"⟩, prog_10_method_15_code, 2, none, 1, [
  (0, [(1, .iconst 0), (1, .istore 1)]),
  (2, [(1, .iload 1), (1, .aload 0), (3, .getfield 2062), (3, .getfield 0), (3, .if_icmp .ge 42), (1, .aload 0), (3, .getfield 2070), (1, .iload 1), (2, .iconst 100), (1, .imul), (1, .aload 0), (3, .getfield 2062), (3, .getfield 18), (1, .iload 1), (1, .iaload), (1, .iadd), (1, .dup2), (1, .iaload), (1, .iconst 1), (1, .iadd), (1, .iastore), (3, .iinc 1 1), (3, .goto 2)]),
  (42, [(1, .return_)])])
def ax_m_8_15 : ax_M := (⟨"ShakingCourt$Seer", "greatestTally", "(I)I"⟩, prog_10_method_16_code, 4, (some .int), 1, [
  (0, [(1, .iconst 0), (1, .istore 2), (1, .iconst 0), (1, .istore 3)]),
  (4, [(1, .iload 3), (2, .iconst 99), (3, .if_icmp .gt 32), (1, .iload 2), (1, .aload 0), (3, .getfield 2070), (1, .iload 1), (2, .iconst 100), (1, .imul), (1, .iload 3), (1, .iadd), (1, .iaload), (3, .invokeinterface 1665 8), (1, .istore 2), (3, .iinc 3 1), (3, .goto 4)]),
  (32, [(1, .iload 2), (1, .ireturn)])])
def ax_m_8_16 : ax_M := (⟨"ShakingCourt$Seer", "firstReach", "(II)I"⟩, prog_10_method_17_code, 4, (some .int), 1, [
  (0, [(1, .aload 0), (3, .getfield 2066), (1, .aload 0), (3, .getfield 2054), (3, .invokeinterface 2 9), (1, .aload 0), (1, .iload 2), (2, .iconst 20), (3, .invokeinterface 1031 13), (1, .iconst 0), (1, .istore 3)]),
  (20, [(1, .iload 3), (2, .iconst 20), (3, .if_icmp .gt 79), (1, .aload 0), (3, .getfield 2062), (3, .getfield 18), (1, .iload 1), (1, .iaload), (1, .aload 0), (3, .getfield 2066), (3, .getfield 18), (1, .iload 1), (1, .iaload), (3, .if_icmp .eq 49), (1, .iload 3), (1, .ireturn)]),
  (49, [(1, .aload 0), (3, .getfield 2050), (1, .aload 0), (3, .getfield 2062), (1, .iconst 1), (3, .invokeinterface 643 13), (1, .aload 0), (3, .getfield 2050), (1, .aload 0), (3, .getfield 2066), (1, .iconst 1), (3, .invokeinterface 643 13), (3, .iinc 3 1), (3, .goto 20)]),
  (79, [(1, .iconst (-1)), (1, .ireturn)])])
def ax_m_8_17 : ax_M := (⟨"ShakingCourt$Seer", "calmestCell", "(I)I"⟩, prog_10_method_18_code, 2, (some .int), 1, [
  (0, [(1, .aload 0), (3, .getfield 2062), (1, .aload 0), (3, .getfield 2054), (3, .invokeinterface 2 9), (1, .aload 0), (3, .getfield 2050), (1, .aload 0), (3, .getfield 2062), (1, .iload 1), (3, .invokeinterface 643 13), (1, .aload 0), (3, .getfield 2062), (3, .invokeinterface 23 5), (1, .ireturn)])])
def ax_m_8_18 : ax_M := (⟨"ShakingCourt$Seer", "idleBits", "()I"⟩, prog_10_method_19_code, 3, (some .int), 1, [
  (0, [(1, .aload 0), (3, .getfield 2062), (1, .aload 0), (3, .getfield 2054), (3, .invokeinterface 2 9), (1, .aload 0), (3, .getfield 2050), (1, .aload 0), (3, .getfield 2062), (1, .iconst 1), (3, .invokeinterface 642 13), (1, .pop), (1, .iconst 0), (1, .istore 1), (1, .iconst 0), (1, .istore 2)]),
  (28, [(1, .iload 2), (1, .aload 0), (3, .getfield 2054), (3, .getfield 4), (3, .if_icmp .ge 72), (1, .aload 0), (3, .getfield 2062), (3, .getfield 26), (1, .iload 2), (1, .iaload), (1, .aload 0), (3, .getfield 2054), (3, .getfield 26), (1, .iload 2), (1, .iaload), (3, .if_icmp .ne 66), (1, .iload 1), (1, .iconst 1), (1, .iload 2), (1, .ishl), (1, .ior), (1, .istore 1)]),
  (66, [(3, .iinc 2 1), (3, .goto 28)]),
  (72, [(1, .iload 1), (1, .ireturn)])])
def ax_m_8_19 : ax_M := (⟨"ShakingCourt$Seer", "risesOf", "(I)I"⟩, prog_10_method_20_code, 5, (some .int), 1, [
  (0, [(1, .aload 0), (3, .getfield 2062), (1, .aload 0), (3, .getfield 2054), (3, .invokeinterface 2 9), (1, .iconst 0), (1, .istore 2), (1, .iconst 0), (1, .istore 3)]),
  (15, [(1, .iload 3), (2, .iconst 20), (3, .if_icmp .ge 67), (1, .aload 0), (3, .getfield 2062), (3, .getfield 18), (1, .iload 1), (1, .iaload), (2, .istore 4), (1, .aload 0), (3, .getfield 2050), (1, .aload 0), (3, .getfield 2062), (1, .iconst 1), (3, .invokeinterface 643 13), (1, .aload 0), (3, .getfield 2062), (3, .getfield 18), (1, .iload 1), (1, .iaload), (2, .iload 4), (3, .if_icmp .le 61), (3, .iinc 2 1)]),
  (61, [(3, .iinc 3 1), (3, .goto 15)]),
  (67, [(1, .iload 2), (1, .ireturn)])])
def ax_m_8_20 : ax_M := (⟨"ShakingCourt$Seer", "millionths", "(III)I"⟩, prog_10_method_21_code, 7, (some .int), 1, [
  (0, [(1, .iconst 0), (2, .istore 4), (1, .iconst 0), (2, .istore 5)]),
  (6, [(2, .iload 5), (1, .iconst 1), (1, .iload 2), (1, .ishl), (3, .if_icmp .ge 52), (2, .iload 5), (1, .iload 2), (1, .iload 3), (3, .invokeinterface 1045 12), (2, .istore 6), (2, .iload 6), (3, .ifCond .le 46), (1, .aload 0), (1, .iload 1), (1, .iload 2), (2, .iload 5), (3, .invokeinterface 1046 17), (3, .ifCond .eq 46), (2, .iload 4), (2, .iload 6), (1, .iadd), (2, .istore 4)]),
  (46, [(3, .iinc 5 1), (3, .goto 6)]),
  (52, [(1, .iload 2), (2, .istore 5)]),
  (55, [(2, .iload 5), (2, .iconst 6), (3, .if_icmp .ge 75), (2, .iload 4), (2, .iconst 10), (1, .imul), (2, .istore 4), (3, .iinc 5 1), (3, .goto 55)]),
  (75, [(2, .iload 4), (1, .ireturn)])])
def ax_m_8_21 : ax_M := (⟨"ShakingCourt$Seer", "weightOf", "(III)I"⟩, prog_10_method_22_code, 5, (some .int), 0, [
  (0, [(1, .iconst 1), (1, .istore 3), (1, .iconst 0), (2, .istore 4)]),
  (5, [(2, .iload 4), (1, .iload 1), (3, .if_icmp .ge 37), (1, .iload 3), (1, .iload 0), (1, .iconst 1), (2, .iload 4), (1, .ishl), (1, .iand), (3, .ifCond .eq 25), (1, .iload 2), (3, .goto 29)]),
  (25, [(2, .iconst 10), (1, .iload 2), (1, .isub)]),
  (29, [(1, .imul), (1, .istore 3), (3, .iinc 4 1), (3, .goto 5)]),
  (37, [(1, .iload 3), (1, .ireturn)])])
def ax_m_8_22 : ax_M := (⟨"ShakingCourt$Seer", "shakesInHeats", "(III)Z"⟩, prog_10_method_23_code, 5, (some .boolean), 1, [
  (0, [(1, .aload 0), (3, .getfield 2062), (1, .aload 0), (3, .getfield 2054), (3, .invokeinterface 2 9), (1, .iconst 0), (2, .istore 4)]),
  (14, [(2, .iload 4), (1, .iload 2), (3, .if_icmp .ge 51), (1, .aload 0), (3, .getfield 2050), (1, .aload 0), (3, .getfield 2062), (1, .iload 3), (1, .iconst 1), (2, .iload 4), (1, .ishl), (1, .iand), (3, .ifCond .eq 41), (1, .iconst 5), (3, .goto 42)]),
  (41, [(1, .iconst 0)]),
  (42, [(3, .invokeinterface 644 13), (3, .iinc 4 1), (3, .goto 14)]),
  (51, [(1, .aload 0), (3, .getfield 2062), (3, .getfield 18), (1, .iload 1), (1, .iaload), (3, .ifCond .le 67), (1, .iconst 1), (3, .goto 68)]),
  (67, [(1, .iconst 0)]),
  (68, [(1, .ireturn)])])
def ax_m_8_23 : ax_M := (⟨"ShakingCourt$Seer", "isRest", "(IIIII)Z"⟩, prog_10_method_24_code, 5, (some .boolean), 0, [
  (0, [(1, .iload 0), (1, .iload 1), (1, .iload 2), (1, .iload 3), (2, .iload 4), (3, .invokeinterface 1048 20), (1, .iconst 1), (1, .iload 0), (1, .isub), (1, .iload 1), (1, .iload 2), (1, .iload 3), (2, .iload 4), (3, .invokeinterface 1048 20), (3, .if_icmp .lt 50), (1, .iload 1), (1, .iload 0), (1, .iload 2), (1, .iload 3), (2, .iload 4), (3, .invokeinterface 1048 20), (1, .iconst 1), (1, .iload 1), (1, .isub), (1, .iload 0), (1, .iload 2), (1, .iload 3), (2, .iload 4), (3, .invokeinterface 1048 20), (3, .if_icmp .lt 50), (1, .iconst 1), (3, .goto 51)]),
  (50, [(1, .iconst 0)]),
  (51, [(1, .ireturn)])])
def ax_m_8_24 : ax_M := (⟨"ShakingCourt$Seer", "pay", "(IIIII)I"⟩, prog_10_method_25_code, 5, (some .int), 0, [
  (0, [(1, .iload 0), (1, .iconst 1), (3, .if_icmp .ne 17), (1, .iload 1), (1, .iconst 1), (3, .if_icmp .ne 14), (1, .iload 2), (3, .goto 16)]),
  (14, [(1, .iload 3), (1, .ineg)]),
  (16, [(1, .ireturn)]),
  (17, [(1, .iload 1), (1, .iconst 1), (3, .if_icmp .ne 27), (2, .iload 4), (3, .goto 28)]),
  (27, [(1, .iconst 0)]),
  (28, [(1, .ireturn)])])
def ax_m_8_25 : ax_M := (⟨"ShakingCourt$Seer", "drawYears", "(III)I"⟩, prog_10_method_26_code, 6, (some .int), 1, [
  (0, [(1, .aload 0), (3, .getfield 2062), (1, .aload 0), (3, .getfield 2054), (3, .invokeinterface 2 9), (1, .aload 0), (1, .iload 1), (1, .i2l), (3, .putfield 2073), (1, .iconst 0), (2, .istore 4), (1, .iconst 0), (2, .istore 5)]),
  (23, [(2, .iload 5), (1, .iload 2), (3, .if_icmp .ge 56), (1, .aload 0), (3, .invokeinterface 1050 5), (2, .iload 4), (1, .aload 0), (3, .getfield 2050), (1, .aload 0), (3, .getfield 2062), (1, .iconst 1), (3, .invokeinterface 642 13), (1, .iadd), (2, .istore 4), (3, .iinc 5 1), (3, .goto 23)]),
  (56, [(1, .iload 3), (3, .ifCond .ne 63), (2, .iload 4), (1, .ireturn)]),
  (63, [(1, .iload 3), (1, .iconst 1), (3, .if_icmp .ne 81), (1, .aload 0), (3, .getfield 2062), (3, .invokeinterface 17 5), (3, .invokeinterface 1792 4), (3, .goto 96)]),
  (81, [(1, .aload 0), (3, .getfield 2062), (1, .iconst 0), (1, .aload 0), (3, .getfield 2062), (3, .getfield 0), (3, .invokeinterface 25 13)]),
  (96, [(1, .ireturn)])])
def ax_m_8_26 : ax_M := (⟨"ShakingCourt$Seer", "drawAct", "()V"⟩, prog_10_method_27_code, 3, none, 1, [
  (0, [(1, .aload 0), (2, .iconst 8), (3, .invokeinterface 1052 9), (1, .istore 1), (1, .iload 1), (1, .iconst 3), (3, .if_icmp .gt 42), (1, .aload 0), (1, .aload 0), (3, .getfield 2062), (3, .getfield 0), (3, .invokeinterface 1052 9), (1, .istore 2), (1, .aload 0), (2, .iconst 7), (1, .iload 2), (1, .aload 0), (2, .iconst 20), (3, .invokeinterface 1052 9), (1, .iconst 1), (1, .iadd), (3, .invokeinterface 1051 17), (3, .goto 130)]),
  (42, [(1, .iload 1), (1, .iconst 4), (3, .if_icmp .ne 68), (1, .aload 0), (2, .iconst 8), (1, .aload 0), (1, .aload 0), (3, .getfield 2062), (3, .getfield 0), (3, .invokeinterface 1052 9), (1, .iconst 0), (3, .invokeinterface 1051 17), (3, .goto 130)]),
  (68, [(1, .iload 1), (1, .iconst 5), (3, .if_icmp .ne 84), (1, .aload 0), (2, .iconst 10), (1, .iconst 0), (1, .iconst 0), (3, .invokeinterface 1051 17), (3, .goto 130)]),
  (84, [(1, .iload 1), (2, .iconst 6), (3, .if_icmp .ne 130), (1, .aload 0), (3, .getfield 2062), (3, .getfield 4), (3, .ifCond .le 130), (1, .aload 0), (1, .aload 0), (3, .getfield 2062), (3, .getfield 4), (3, .invokeinterface 1052 9), (1, .istore 2), (1, .aload 0), (2, .iconst 11), (1, .iload 2), (1, .aload 0), (1, .aload 0), (3, .getfield 2062), (3, .getfield 4), (3, .invokeinterface 1052 9), (3, .invokeinterface 1051 17)]),
  (130, [(1, .return_)])])
def ax_m_8_27 : ax_M := (⟨"ShakingCourt$Seer", "actIfCan", "(III)V"⟩, prog_10_method_28_code, 4, none, 1, [
  (0, [(1, .aload 0), (3, .getfield 2062), (1, .iload 1), (1, .iload 2), (1, .iload 3), (3, .invokeinterface 7 17), (3, .ifCond .eq 23), (1, .aload 0), (3, .getfield 2062), (1, .iload 1), (1, .iload 2), (1, .iload 3), (3, .invokeinterface 8 17)]),
  (23, [(1, .return_)])])
def ax_m_8_28 : ax_M := (⟨"ShakingCourt$Seer", "drawBelow", "(I)I"⟩, prog_10_method_29_code, 2, (some .int), 1, [
  (0, [(1, .aload 0), (1, .aload 0), (3, .getfield 2073), (3, .goto_w 1103515245), (1, .lmul), (3, .goto_w 12345), (1, .ladd), (3, .goto_w 2147483648), (1, .lrem), (3, .putfield 2073), (1, .iload 1), (3, .ifCond .le 39), (1, .aload 0), (3, .getfield 2073), (3, .goto_w 65536), (1, .ldiv), (1, .iload 1), (1, .i2l), (1, .lrem), (1, .l2i), (3, .goto 40)]),
  (39, [(1, .iconst 0)]),
  (40, [(1, .ireturn)])])
def ax_m_9_0 : ax_M := (⟨"ShakingCourt$Tokens", "<init>", "()V"⟩, prog_11_method_1_code, 1, none, 2, [
  (0, [(1, .aload 0), (3, .invokedynamic 0), (1, .aload 0), (3, .iconst 1000), (2, .newarray .byte), (3, .putstatic 2306), (1, .return_)])])
def ax_m_9_1 : ax_M := (⟨"ShakingCourt$Tokens", "addEight", "(J)V"⟩, prog_11_method_2_code, 6, none, 1, [
  (0, [(2, .iconst 56), (1, .istore 3)]),
  (3, [(1, .iload 3), (3, .ifCond .lt 86), (1, .lload 1), (1, .iload 3), (1, .lushr), (1, .l2i), (3, .iconst 255), (1, .iand), (2, .istore 4), (2, .iload 4), (2, .iconst 10), (3, .if_icmp .eq 36), (2, .iload 4), (2, .iconst 32), (2, .iconst 126), (3, .invokeinterface 1322 12), (3, .ifCond .eq 40)]),
  (36, [(1, .iconst 1), (3, .goto 41)]),
  (40, [(1, .iconst 0)]),
  (41, [(2, .istore 5), (2, .iload 5), (3, .ifCond .eq 80), (1, .aload 0), (3, .getfield 2308), (3, .iconst 1000), (3, .if_icmp .ge 80), (1, .aload 0), (3, .getfield 2306), (1, .aload 0), (3, .getfield 2308), (2, .iload 4), (1, .i2b), (1, .bastore), (1, .aload 0), (1, .dup), (3, .getfield 2308), (1, .iconst 1), (1, .iadd), (3, .putfield 2308)]),
  (80, [(3, .iinc 3 (-8)), (3, .goto 3)]),
  (86, [(1, .return_)])])
def ax_m_9_2 : ax_M := (⟨"ShakingCourt$Tokens", "begin", "()V"⟩, prog_11_method_3_code, 1, none, 1, [
  (0, [(1, .aload 0), (1, .iconst 0), (3, .putfield 2336), (1, .aload 0), (1, .iconst 0), (3, .putfield 2328), (1, .aload 0), (3, .invokeinterface 1160 5), (1, .return_)])])
def ax_m_9_3 : ax_M := (⟨"ShakingCourt$Tokens", "finish", "()I"⟩, prog_11_method_4_code, 1, (some .int), 1, [
  (0, [(1, .aload 0), (1, .iconst 0), (3, .putfield 2308), (1, .aload 0), (3, .getfield 2328), (1, .ireturn)])])
def ax_m_9_4 : ax_M := (⟨"ShakingCourt$Tokens", "fail", "(I)Z"⟩, prog_11_method_5_code, 2, (some .boolean), 1, [
  (0, [(1, .aload 0), (1, .iload 1), (2, .iconst 16), (1, .aload 0), (3, .getfield 2332), (1, .imul), (1, .iadd), (3, .putfield 2328), (1, .iconst 0), (1, .ireturn)])])
def ax_m_9_5 : ax_M := (⟨"ShakingCourt$Tokens", "take", "(I)Z"⟩, prog_11_method_6_code, 2, (some .boolean), 1, [
  (0, [(1, .aload 0), (3, .getfield 2312), (1, .iload 1), (3, .if_icmp .eq 14), (1, .aload 0), (1, .iconst 1), (3, .invokeinterface 1156 9), (1, .ireturn)]),
  (14, [(1, .aload 0), (3, .invokeinterface 1160 5), (1, .iconst 1), (1, .ireturn)])])
def ax_m_9_6 : ax_M := (⟨"ShakingCourt$Tokens", "takeNumber", "(II)Z"⟩, prog_11_method_7_code, 3, (some .boolean), 1, [
  (0, [(1, .aload 0), (3, .getfield 2312), (2, .iconst 25), (3, .if_icmp .eq 15), (1, .aload 0), (1, .iconst 1), (3, .invokeinterface 1156 9), (1, .ireturn)]),
  (15, [(1, .aload 0), (3, .getfield 2316), (1, .iload 1), (1, .iload 2), (3, .invokeinterface 1322 12), (3, .ifCond .ne 33), (1, .aload 0), (1, .iconst 4), (3, .invokeinterface 1156 9), (1, .ireturn)]),
  (33, [(1, .aload 0), (1, .aload 0), (3, .getfield 2316), (3, .putfield 2324), (1, .aload 0), (3, .invokeinterface 1160 5), (1, .iconst 1), (1, .ireturn)])])
def ax_m_9_7 : ax_M := (⟨"ShakingCourt$Tokens", "isName", "()Z"⟩, prog_11_method_8_code, 1, (some .boolean), 1, [
  (0, [(1, .aload 0), (3, .getfield 2312), (2, .iconst 24), (3, .if_icmp .eq 23), (1, .aload 0), (3, .getfield 2312), (2, .iconst 20), (2, .iconst 23), (3, .invokeinterface 1322 12), (3, .ifCond .eq 27)]),
  (23, [(1, .iconst 1), (3, .goto 28)]),
  (27, [(1, .iconst 0)]),
  (28, [(1, .ireturn)])])
def ax_m_9_8 : ax_M := (⟨"ShakingCourt$Tokens", "advance", "()V"⟩, prog_11_method_9_code, 2, none, 1, [
  (0, [(1, .aload 0), (3, .getfield 2336), (1, .aload 0), (3, .getfield 2308), (3, .if_icmp .ge 52), (1, .aload 0), (3, .getfield 2306), (1, .aload 0), (3, .getfield 2336), (1, .baload), (2, .iconst 10), (3, .if_icmp .eq 39), (1, .aload 0), (3, .getfield 2306), (1, .aload 0), (3, .getfield 2336), (1, .baload), (2, .iconst 32), (3, .if_icmp .ne 52)]),
  (39, [(1, .aload 0), (1, .dup), (3, .getfield 2336), (1, .iconst 1), (1, .iadd), (3, .putfield 2336), (3, .goto 0)]),
  (52, [(1, .aload 0), (1, .aload 0), (3, .getfield 2336), (3, .putfield 2332), (1, .aload 0), (3, .getfield 2332), (1, .aload 0), (3, .getfield 2308), (3, .if_icmp .lt 80), (1, .aload 0), (2, .iconst 26), (3, .putfield 2312), (3, .goto 188)]),
  (80, [(1, .aload 0), (3, .getfield 2306), (1, .aload 0), (3, .getfield 2332), (1, .baload), (3, .invokeinterface 1164 4), (3, .ifCond .eq 129), (1, .aload 0), (3, .invokeinterface 1161 5), (1, .aload 0), (1, .aload 0), (3, .getfield 2336), (1, .aload 0), (3, .getfield 2332), (1, .isub), (2, .iconst 8), (3, .if_icmp .le 119), (2, .iconst 27), (3, .goto 123)]),
  (119, [(1, .aload 0), (3, .invokeinterface 1163 5)]),
  (123, [(3, .putfield 2312), (3, .goto 188)]),
  (129, [(1, .aload 0), (3, .getfield 2306), (1, .aload 0), (3, .getfield 2332), (1, .baload), (3, .invokeinterface 1165 4), (3, .ifCond .eq 151), (1, .aload 0), (3, .invokeinterface 1162 5), (3, .goto 188)]),
  (151, [(1, .aload 0), (3, .getfield 2306), (1, .aload 0), (3, .getfield 2332), (1, .baload), (1, .istore 1), (1, .aload 0), (1, .iload 1), (3, .invokeinterface 1166 4), (3, .ifCond .eq 173), (1, .iload 1), (3, .goto 175)]),
  (173, [(2, .iconst 27)]),
  (175, [(3, .putfield 2312), (1, .aload 0), (1, .aload 0), (3, .getfield 2332), (1, .iconst 1), (1, .iadd), (3, .putfield 2336)]),
  (188, [(1, .return_)])])
def ax_m_9_9 : ax_M := (⟨"ShakingCourt$Tokens", "readName", "()V"⟩, prog_11_method_10_code, 1, none, 1, [
  (0, [(1, .aload 0), (1, .goto_w 0), (3, .putfield 2321)]),
  (5, [(1, .aload 0), (3, .getfield 2336), (1, .aload 0), (3, .getfield 2308), (3, .if_icmp .ge 66), (1, .aload 0), (3, .getfield 2306), (1, .aload 0), (3, .getfield 2336), (1, .baload), (3, .invokeinterface 1164 4), (3, .ifCond .eq 66), (1, .aload 0), (1, .aload 0), (3, .getfield 2321), (2, .iconst 8), (1, .lshl), (1, .aload 0), (3, .getfield 2306), (1, .aload 0), (3, .getfield 2336), (1, .baload), (1, .i2l), (1, .lor), (3, .putfield 2321), (1, .aload 0), (1, .dup), (3, .getfield 2336), (1, .iconst 1), (1, .iadd), (3, .putfield 2336), (3, .goto 5)]),
  (66, [(1, .return_)])])
def ax_m_9_10 : ax_M := (⟨"ShakingCourt$Tokens", "readNumber", "()V"⟩, prog_11_method_11_code, 1, none, 1, [
  (0, [(1, .aload 0), (1, .iconst 0), (3, .putfield 2316)]),
  (5, [(1, .aload 0), (3, .getfield 2336), (1, .aload 0), (3, .getfield 2308), (3, .if_icmp .ge 68), (1, .aload 0), (3, .getfield 2306), (1, .aload 0), (3, .getfield 2336), (1, .baload), (3, .invokeinterface 1165 4), (3, .ifCond .eq 68), (1, .aload 0), (1, .aload 0), (3, .getfield 2316), (2, .iconst 10), (1, .imul), (1, .aload 0), (3, .getfield 2306), (1, .aload 0), (3, .getfield 2336), (1, .baload), (1, .iadd), (2, .iconst 48), (1, .isub), (3, .putfield 2316), (1, .aload 0), (1, .dup), (3, .getfield 2336), (1, .iconst 1), (1, .iadd), (3, .putfield 2336), (3, .goto 5)]),
  (68, [(1, .aload 0), (1, .aload 0), (3, .getfield 2336), (1, .aload 0), (3, .getfield 2332), (1, .isub), (1, .iconst 4), (3, .if_icmp .le 87), (2, .iconst 27), (3, .goto 89)]),
  (87, [(2, .iconst 25)]),
  (89, [(3, .putfield 2312), (1, .return_)])])
def ax_m_9_11 : ax_M := (⟨"ShakingCourt$Tokens", "wordNumber", "()I"⟩, prog_11_method_12_code, 6, (some .int), 1, [
  (0, [(1, .goto_w 0), (1, .lstore 1), (1, .iconst 0), (1, .istore 3), (1, .iconst 0), (2, .istore 4)]),
  (7, [(2, .iload 4), (2, .ldc 1), (3, .invokedynamic 2), (3, .if_icmp .ge 67), (2, .ldc 1), (2, .iload 4), (3, .invokedynamic 3), (2, .istore 5), (2, .iload 5), (2, .iconst 32), (3, .if_icmp .eq 45), (1, .lload 1), (2, .iconst 8), (1, .lshl), (2, .iload 5), (1, .i2l), (1, .lor), (1, .lstore 1), (3, .goto 61)]),
  (45, [(1, .lload 1), (1, .aload 0), (3, .getfield 2321), (1, .lcmp), (3, .ifCond .ne 56), (1, .iload 3), (1, .ireturn)]),
  (56, [(1, .goto_w 0), (1, .lstore 1), (3, .iinc 3 1)]),
  (61, [(3, .iinc 4 1), (3, .goto 7)]),
  (67, [(2, .iconst 24), (1, .ireturn)])])
def ax_m_9_12 : ax_M := (⟨"ShakingCourt$Tokens", "isLetter", "(I)Z"⟩, prog_11_method_13_code, 1, (some .boolean), 0, [
  (0, [(1, .iload 0), (2, .iconst 97), (3, .if_icmp .lt 16), (1, .iload 0), (2, .iconst 122), (3, .if_icmp .gt 16), (1, .iconst 1), (3, .goto 17)]),
  (16, [(1, .iconst 0)]),
  (17, [(1, .ireturn)])])
def ax_m_9_13 : ax_M := (⟨"ShakingCourt$Tokens", "isDigit", "(I)Z"⟩, prog_11_method_14_code, 1, (some .boolean), 0, [
  (0, [(1, .iload 0), (2, .iconst 48), (3, .if_icmp .lt 16), (1, .iload 0), (2, .iconst 57), (3, .if_icmp .gt 16), (1, .iconst 1), (3, .goto 17)]),
  (16, [(1, .iconst 0)]),
  (17, [(1, .ireturn)])])
def ax_m_9_14 : ax_M := (⟨"ShakingCourt$Tokens", "isTokenSign", "(I)Z"⟩, prog_11_method_15_code, 1, (some .boolean), 0, [
  (0, [(1, .iload 0), (103, .tableswitch 106 40 61 #[104, 104, 104, 104, 106, 104, 106, 106, 106, 106, 106, 106, 106, 106, 106, 106, 106, 106, 106, 104, 104, 104])]),
  (104, [(1, .iconst 1), (1, .ireturn)]),
  (106, [(1, .iconst 0), (1, .ireturn)])])
def ax_m_10_0 : ax_M := (⟨"ShakingCourt", "<init>", "()V"⟩, prog_1_method_1_code, 1, none, 2, [
  (0, [(1, .aload 0), (3, .invokedynamic 0), (1, .aload 0), (3, .new 9), (1, .dup), (3, .invokeinterface 1152 6), (3, .putstatic 2562), (1, .aload 0), (3, .new 1), (1, .dup), (3, .invokeinterface 128 6), (3, .putstatic 2570), (1, .aload 0), (3, .new 7), (1, .dup), (3, .invokeinterface 896 6), (3, .putstatic 2574), (1, .aload 0), (3, .new 6), (1, .dup), (1, .aload 0), (3, .getfield 2562), (1, .aload 0), (3, .getfield 2570), (3, .invokeinterface 768 14), (3, .putstatic 2566), (1, .aload 0), (3, .new 0), (1, .dup), (3, .invokeinterface 0 6), (3, .putstatic 2578), (1, .aload 0), (3, .new 2), (1, .dup), (3, .invokeinterface 256 6), (3, .putstatic 2582), (1, .aload 0), (3, .new 4), (1, .dup), (3, .invokeinterface 512 6), (3, .putstatic 2586), (1, .aload 0), (3, .new 5), (1, .dup), (1, .aload 0), (3, .getfield 2570), (3, .invokeinterface 640 10), (3, .putstatic 2590), (1, .aload 0), (3, .new 8), (1, .dup), (1, .aload 0), (3, .getfield 2590), (1, .aload 0), (3, .getfield 2578), (1, .aload 0), (3, .getfield 2582), (3, .invokeinterface 1024 18), (3, .putstatic 2594), (1, .aload 0), (3, .getfield 2570), (3, .invokeinterface 129 5), (1, .aload 0), (3, .getfield 2570), (3, .invokeinterface 133 5), (1, .aload 0), (3, .getfield 2578), (1, .aload 0), (3, .getfield 2570), (3, .invokeinterface 1 9), (1, .return_)])])
def ax_m_10_1 : ax_M := (⟨"ShakingCourt", "feed", "(JJJ)I"⟩, prog_1_method_2_code, 7, (some .int), 1, [
  (0, [(1, .aload 0), (3, .getfield 2562), (1, .lload 1), (3, .invokeinterface 1153 9), (1, .aload 0), (3, .getfield 2562), (1, .lload 3), (3, .invokeinterface 1153 9), (1, .aload 0), (3, .getfield 2562), (2, .lload 5), (3, .invokeinterface 1153 9), (1, .aload 0), (3, .getfield 2562), (3, .getfield 2308), (1, .ireturn)])])
def ax_m_10_2 : ax_M := (⟨"ShakingCourt", "court", "()I"⟩, prog_1_method_3_code, 2, (some .int), 1, [
  (0, [(1, .aload 0), (3, .getfield 2566), (3, .invokeinterface 769 5), (1, .istore 1), (1, .iload 1), (3, .ifCond .ne 67), (1, .aload 0), (3, .getfield 2570), (1, .aload 0), (3, .getfield 2566), (3, .getfield 1546), (3, .invokeinterface 134 9), (1, .aload 0), (3, .getfield 2574), (1, .iconst 0), (3, .putfield 1792), (1, .aload 0), (3, .getfield 2590), (3, .invokeinterface 641 5), (1, .aload 0), (3, .getfield 2578), (1, .aload 0), (3, .getfield 2570), (3, .invokeinterface 1 9), (1, .aload 0), (3, .getfield 2582), (1, .iconst 0), (3, .putfield 512), (1, .aload 0), (3, .getfield 2586), (3, .invokeinterface 513 5)]),
  (67, [(1, .iload 1), (1, .ireturn)])])
def ax_m_10_3 : ax_M := (⟨"ShakingCourt", "reign", "()I"⟩, prog_1_method_4_code, 2, (some .int), 1, [
  (0, [(1, .aload 0), (3, .getfield 2566), (3, .invokeinterface 770 5), (1, .istore 1), (1, .iload 1), (3, .ifCond .ne 26), (1, .aload 0), (3, .getfield 2574), (1, .aload 0), (3, .getfield 2566), (3, .getfield 1550), (3, .invokeinterface 897 9)]),
  (26, [(1, .iload 1), (1, .ireturn)])])
def ax_m_10_4 : ax_M := (⟨"ShakingCourt", "shake", "(I)I"⟩, prog_1_method_5_code, 2, (some .int), 1, [
  (0, [(1, .aload 0), (3, .getfield 2578), (1, .iload 1), (3, .invokeinterface 5 9), (3, .ifCond .eq 23), (1, .aload 0), (3, .getfield 2578), (3, .getfield 18), (1, .iload 1), (1, .iaload), (3, .goto 24)]),
  (23, [(1, .iconst (-1))]),
  (24, [(1, .ireturn)])])
def ax_m_10_5 : ax_M := (⟨"ShakingCourt", "courtier", "(II)I"⟩, prog_1_method_6_code, 3, (some .int), 1, [
  (0, [(1, .aload 0), (3, .getfield 2578), (1, .iload 1), (3, .invokeinterface 6 9), (3, .ifCond .ne 14), (2, .iconst (-2)), (1, .ireturn)]),
  (14, [(1, .iload 2), (29, .tableswitch 87 0 3 #[44, 57, 67, 77])]),
  (44, [(1, .aload 0), (3, .getfield 2570), (3, .getfield 266), (1, .iload 1), (1, .iaload), (2, .iconst 13), (1, .isub), (1, .ireturn)]),
  (57, [(1, .aload 0), (3, .getfield 2578), (3, .getfield 22), (1, .iload 1), (1, .iaload), (1, .ireturn)]),
  (67, [(1, .aload 0), (3, .getfield 2570), (3, .getfield 274), (1, .iload 1), (1, .iaload), (1, .ireturn)]),
  (77, [(1, .aload 0), (3, .getfield 2578), (3, .getfield 26), (1, .iload 1), (1, .iaload), (1, .ireturn)]),
  (87, [(2, .iconst (-2)), (1, .ireturn)])])
def ax_m_10_6 : ax_M := (⟨"ShakingCourt", "touch", "(II)I"⟩, prog_1_method_7_code, 3, (some .int), 1, [
  (0, [(1, .iload 2), (1, .iconst 1), (2, .iconst 20), (3, .invokeinterface 1322 12), (3, .ifCond .eq 21), (1, .aload 0), (2, .iconst 7), (1, .iload 1), (1, .iload 2), (3, .invokeinterface 1321 17), (3, .ifCond .ne 23)]),
  (21, [(1, .iconst (-1)), (1, .ireturn)]),
  (23, [(1, .aload 0), (3, .getfield 2578), (3, .getfield 18), (1, .iload 1), (1, .iaload), (1, .ireturn)])])
def ax_m_10_7 : ax_M := (⟨"ShakingCourt", "breathe", "(I)I"⟩, prog_1_method_8_code, 2, (some .int), 1, [
  (0, [(1, .aload 0), (2, .iconst 8), (1, .iload 1), (1, .iconst 0), (3, .invokeinterface 1321 17), (3, .ifCond .eq 23), (1, .aload 0), (3, .getfield 2578), (3, .getfield 18), (1, .iload 1), (1, .iaload), (3, .goto 24)]),
  (23, [(1, .iconst (-1))]),
  (24, [(1, .ireturn)])])
def ax_m_10_8 : ax_M := (⟨"ShakingCourt", "fork", "(I)Z"⟩, prog_1_method_9_code, 2, (some .boolean), 1, [
  (0, [(1, .aload 0), (2, .iconst 9), (1, .iload 1), (1, .iconst 0), (3, .invokeinterface 1321 17), (1, .ireturn)])])
def ax_m_10_9 : ax_M := (⟨"ShakingCourt", "turn", "()Z"⟩, prog_1_method_10_code, 2, (some .boolean), 1, [
  (0, [(1, .aload 0), (3, .getfield 2578), (3, .invokeinterface 20 5), (1, .istore 1), (1, .aload 0), (2, .iconst 10), (1, .iconst 0), (1, .iconst 0), (3, .invokeinterface 1321 17), (1, .pop), (1, .iload 1), (3, .ifCond .ne 25), (1, .iconst 1), (3, .goto 26)]),
  (25, [(1, .iconst 0)]),
  (26, [(1, .ireturn)])])
def ax_m_10_10 : ax_M := (⟨"ShakingCourt", "change", "(II)Z"⟩, prog_1_method_11_code, 3, (some .boolean), 1, [
  (0, [(1, .aload 0), (2, .iconst 11), (1, .iload 1), (1, .iload 2), (3, .invokeinterface 1321 17), (1, .ireturn)])])
def ax_m_10_11 : ax_M := (⟨"ShakingCourt", "beat", "()I"⟩, prog_1_method_12_code, 1, (some .int), 1, [
  (0, [(1, .aload 0), (3, .getfield 2586), (1, .aload 0), (3, .getfield 2578), (3, .invokeinterface 514 9), (1, .aload 0), (3, .getfield 2590), (1, .aload 0), (3, .getfield 2578), (1, .iconst 1), (3, .invokeinterface 642 13), (1, .ireturn)])])
def ax_m_10_12 : ax_M := (⟨"ShakingCourt", "undo", "()Z"⟩, prog_1_method_13_code, 1, (some .boolean), 1, [
  (0, [(1, .aload 0), (3, .getfield 2586), (1, .aload 0), (3, .getfield 2578), (3, .invokeinterface 515 9), (1, .ireturn)])])
def ax_m_10_13 : ax_M := (⟨"ShakingCourt", "judged", "(I)I"⟩, prog_1_method_14_code, 2, (some .int), 1, [
  (0, [(1, .iload 1), (1, .iconst 0), (1, .iconst 2), (3, .invokeinterface 1322 12), (3, .ifCond .eq 28), (1, .aload 0), (3, .getfield 2594), (1, .aload 0), (3, .getfield 2570), (1, .aload 0), (3, .getfield 2574), (1, .iload 1), (3, .invokeinterface 1025 17), (3, .goto 30)]),
  (28, [(2, .iconst (-2))]),
  (30, [(1, .ireturn)])])
def ax_m_10_14 : ax_M := (⟨"ShakingCourt", "later", "(II)I"⟩, prog_1_method_15_code, 3, (some .int), 1, [
  (0, [(1, .aload 0), (3, .getfield 2578), (1, .iload 1), (3, .invokeinterface 5 9), (3, .ifCond .eq 21), (1, .iload 2), (1, .iconst 0), (2, .iconst 60), (3, .invokeinterface 1322 12), (3, .ifCond .ne 23)]),
  (21, [(1, .iconst (-1)), (1, .ireturn)]),
  (23, [(1, .aload 0), (3, .getfield 2594), (1, .iload 1), (1, .iload 2), (3, .invokeinterface 1026 13), (1, .ireturn)])])
def ax_m_10_15 : ax_M := (⟨"ShakingCourt", "still", "()I"⟩, prog_1_method_16_code, 1, (some .int), 1, [
  (0, [(1, .aload 0), (3, .getfield 2594), (3, .invokeinterface 1027 5), (1, .ireturn)])])
def ax_m_10_16 : ax_M := (⟨"ShakingCourt", "peak", "(I)I"⟩, prog_1_method_17_code, 2, (some .int), 1, [
  (0, [(1, .aload 0), (3, .getfield 2578), (1, .iload 1), (3, .invokeinterface 5 9), (3, .ifCond .eq 22), (1, .aload 0), (3, .getfield 2594), (1, .iload 1), (3, .invokeinterface 1028 9), (3, .goto 23)]),
  (22, [(1, .iconst (-1))]),
  (23, [(1, .ireturn)])])
def ax_m_10_17 : ax_M := (⟨"ShakingCourt", "total", "(II)I"⟩, prog_1_method_18_code, 3, (some .int), 1, [
  (0, [(1, .aload 0), (3, .getfield 2578), (1, .iload 1), (3, .invokeinterface 6 9), (3, .ifCond .eq 21), (1, .iload 2), (1, .iconst 1), (2, .iconst 60), (3, .invokeinterface 1322 12), (3, .ifCond .ne 23)]),
  (21, [(1, .iconst (-1)), (1, .ireturn)]),
  (23, [(1, .aload 0), (3, .getfield 2594), (1, .iload 1), (1, .iload 2), (3, .invokeinterface 1029 13), (1, .ireturn)])])
def ax_m_10_18 : ax_M := (⟨"ShakingCourt", "nudge", "(IIII)I"⟩, prog_1_method_19_code, 5, (some .int), 1, [
  (0, [(1, .aload 0), (3, .getfield 2578), (1, .iload 1), (3, .invokeinterface 5 9), (3, .ifCond .eq 41), (1, .iload 2), (1, .iconst 0), (2, .iconst 12), (3, .invokeinterface 1322 12), (3, .ifCond .eq 41), (1, .iload 3), (1, .iconst 1), (2, .iconst 99), (3, .invokeinterface 1322 12), (3, .ifCond .eq 41), (2, .iload 4), (1, .iconst 0), (1, .iconst 1), (3, .invokeinterface 1322 12), (3, .ifCond .ne 43)]),
  (41, [(1, .iconst (-1)), (1, .ireturn)]),
  (43, [(1, .aload 0), (3, .getfield 2594), (1, .iload 1), (1, .iload 2), (1, .iload 3), (2, .iload 4), (3, .invokeinterface 1030 21), (1, .ireturn)])])
def ax_m_10_19 : ax_M := (⟨"ShakingCourt", "guard", "(I)I"⟩, prog_1_method_20_code, 2, (some .int), 1, [
  (0, [(1, .aload 0), (3, .getfield 2578), (1, .iload 1), (3, .invokeinterface 6 9), (3, .ifCond .eq 22), (1, .aload 0), (3, .getfield 2594), (1, .iload 1), (3, .invokeinterface 1032 9), (3, .goto 23)]),
  (22, [(1, .iconst (-1))]),
  (23, [(1, .ireturn)])])
def ax_m_10_20 : ax_M := (⟨"ShakingCourt", "swap", "()I"⟩, prog_1_method_21_code, 1, (some .int), 1, [
  (0, [(1, .aload 0), (3, .getfield 2594), (3, .invokeinterface 1033 5), (1, .ireturn)])])
def ax_m_10_21 : ax_M := (⟨"ShakingCourt", "feel", "(III)Z"⟩, prog_1_method_22_code, 4, (some .boolean), 1, [
  (0, [(1, .aload 0), (3, .getfield 2578), (1, .iload 1), (3, .invokeinterface 5 9), (3, .ifCond .eq 31), (1, .iload 2), (1, .iconst 0), (2, .iconst 12), (3, .invokeinterface 1322 12), (3, .ifCond .eq 31), (1, .iload 3), (1, .iconst 0), (2, .iconst 99), (3, .invokeinterface 1322 12), (3, .ifCond .ne 33)]),
  (31, [(1, .iconst 0), (1, .ireturn)]),
  (33, [(1, .aload 0), (3, .getfield 2582), (1, .iload 1), (1, .iload 2), (1, .iload 3), (3, .invokeinterface 257 17), (1, .ireturn)])])
def ax_m_10_22 : ax_M := (⟨"ShakingCourt", "ways", "(I)I"⟩, prog_1_method_23_code, 2, (some .int), 1, [
  (0, [(1, .iload 1), (1, .iconst 0), (1, .iconst 3), (3, .invokeinterface 1322 12), (3, .ifCond .eq 20), (1, .aload 0), (3, .getfield 2594), (1, .iload 1), (3, .invokeinterface 1035 9), (3, .goto 21)]),
  (20, [(1, .iconst (-1))]),
  (21, [(1, .ireturn)])])
def ax_m_10_23 : ax_M := (⟨"ShakingCourt", "look", "(I)I"⟩, prog_1_method_24_code, 2, (some .int), 1, [
  (0, [(1, .iload 1), (1, .iconst 0), (2, .iconst 12), (3, .invokeinterface 1322 12), (3, .ifCond .eq 21), (1, .aload 0), (3, .getfield 2594), (1, .iload 1), (3, .invokeinterface 1037 9), (3, .goto 22)]),
  (21, [(1, .iconst (-1))]),
  (22, [(1, .ireturn)])])
def ax_m_10_24 : ax_M := (⟨"ShakingCourt", "share", "(II)I"⟩, prog_1_method_25_code, 3, (some .int), 1, [
  (0, [(1, .aload 0), (3, .getfield 2578), (1, .iload 1), (3, .invokeinterface 6 9), (3, .ifCond .eq 21), (1, .iload 2), (1, .iconst 1), (2, .iconst 99), (3, .invokeinterface 1322 12), (3, .ifCond .ne 23)]),
  (21, [(1, .iconst (-1)), (1, .ireturn)]),
  (23, [(1, .aload 0), (3, .getfield 2570), (1, .iload 1), (1, .iload 2), (3, .invokeinterface 137 13), (1, .ireturn)])])
def ax_m_10_25 : ax_M := (⟨"ShakingCourt", "alike", "()I"⟩, prog_1_method_26_code, 1, (some .int), 1, [
  (0, [(1, .aload 0), (3, .getfield 2578), (3, .invokeinterface 19 5), (1, .ireturn)])])
def ax_m_10_26 : ax_M := (⟨"ShakingCourt", "even", "()Z"⟩, prog_1_method_27_code, 1, (some .boolean), 1, [
  (0, [(1, .aload 0), (3, .getfield 2578), (3, .invokeinterface 20 5), (1, .ireturn)])])
def ax_m_10_27 : ax_M := (⟨"ShakingCourt", "calm", "()I"⟩, prog_1_method_28_code, 1, (some .int), 1, [
  (0, [(1, .aload 0), (3, .getfield 2578), (3, .invokeinterface 21 5), (1, .ireturn)])])
def ax_m_10_28 : ax_M := (⟨"ShakingCourt", "loud", "()I"⟩, prog_1_method_29_code, 1, (some .int), 1, [
  (0, [(1, .aload 0), (3, .getfield 2578), (3, .invokeinterface 22 5), (1, .ireturn)])])
def ax_m_10_29 : ax_M := (⟨"ShakingCourt", "spread", "()I"⟩, prog_1_method_30_code, 1, (some .int), 1, [
  (0, [(1, .aload 0), (3, .getfield 2578), (3, .invokeinterface 24 5), (1, .ireturn)])])
def ax_m_10_30 : ax_M := (⟨"ShakingCourt", "reach", "(II)I"⟩, prog_1_method_31_code, 3, (some .int), 1, [
  (0, [(1, .aload 0), (3, .getfield 2578), (1, .iload 1), (3, .invokeinterface 5 9), (3, .ifCond .eq 34), (1, .aload 0), (3, .getfield 2578), (1, .iload 2), (3, .invokeinterface 5 9), (3, .ifCond .eq 34), (1, .aload 0), (3, .getfield 2594), (1, .iload 1), (1, .iload 2), (3, .invokeinterface 1040 13), (3, .goto 35)]),
  (34, [(1, .iconst (-1))]),
  (35, [(1, .ireturn)])])
def ax_m_10_31 : ax_M := (⟨"ShakingCourt", "arc", "(II)I"⟩, prog_1_method_32_code, 3, (some .int), 1, [
  (0, [(1, .aload 0), (3, .getfield 2578), (1, .iload 1), (3, .invokeinterface 3 9), (3, .ifCond .eq 26), (1, .iload 2), (1, .iconst 1), (1, .aload 0), (3, .getfield 2578), (3, .getfield 0), (3, .invokeinterface 1322 12), (3, .ifCond .ne 28)]),
  (26, [(1, .iconst (-1)), (1, .ireturn)]),
  (28, [(1, .aload 0), (3, .getfield 2578), (1, .iload 1), (1, .iload 2), (3, .invokeinterface 25 13), (1, .ireturn)])])
def ax_m_10_32 : ax_M := (⟨"ShakingCourt", "calmest", "(I)I"⟩, prog_1_method_33_code, 2, (some .int), 1, [
  (0, [(1, .iload 1), (1, .iconst 0), (2, .iconst 60), (3, .invokeinterface 1322 12), (3, .ifCond .eq 21), (1, .aload 0), (3, .getfield 2594), (1, .iload 1), (3, .invokeinterface 1041 9), (3, .goto 22)]),
  (21, [(1, .iconst (-1))]),
  (22, [(1, .ireturn)])])
def ax_m_10_33 : ax_M := (⟨"ShakingCourt", "lazy", "()I"⟩, prog_1_method_34_code, 1, (some .int), 1, [
  (0, [(1, .aload 0), (3, .getfield 2594), (3, .invokeinterface 1042 5), (1, .ireturn)])])
def ax_m_10_34 : ax_M := (⟨"ShakingCourt", "post", "(I)I"⟩, prog_1_method_35_code, 2, (some .int), 1, [
  (0, [(1, .aload 0), (3, .getfield 2578), (1, .iload 1), (3, .invokeinterface 6 9), (3, .ifCond .eq 22), (1, .aload 0), (3, .getfield 2594), (1, .iload 1), (3, .invokeinterface 1034 9), (3, .goto 23)]),
  (22, [(1, .iconst (-1))]),
  (23, [(1, .ireturn)])])
def ax_m_10_35 : ax_M := (⟨"ShakingCourt", "hush", "()I"⟩, prog_1_method_36_code, 1, (some .int), 1, [
  (0, [(1, .aload 0), (3, .getfield 2578), (3, .invokeinterface 26 5), (1, .ireturn)])])
def ax_m_10_36 : ax_M := (⟨"ShakingCourt", "rises", "(I)I"⟩, prog_1_method_37_code, 2, (some .int), 1, [
  (0, [(1, .aload 0), (3, .getfield 2578), (1, .iload 1), (3, .invokeinterface 5 9), (3, .ifCond .eq 22), (1, .aload 0), (3, .getfield 2594), (1, .iload 1), (3, .invokeinterface 1043 9), (3, .goto 23)]),
  (22, [(1, .iconst (-1))]),
  (23, [(1, .ireturn)])])
def ax_m_10_37 : ax_M := (⟨"ShakingCourt", "chance", "(III)I"⟩, prog_1_method_38_code, 4, (some .int), 1, [
  (0, [(1, .aload 0), (3, .getfield 2578), (1, .iload 1), (3, .invokeinterface 5 9), (3, .ifCond .eq 31), (1, .iload 2), (1, .iconst 1), (2, .iconst 6), (3, .invokeinterface 1322 12), (3, .ifCond .eq 31), (1, .iload 3), (1, .iconst 0), (2, .iconst 10), (3, .invokeinterface 1322 12), (3, .ifCond .ne 33)]),
  (31, [(1, .iconst (-1)), (1, .ireturn)]),
  (33, [(1, .aload 0), (3, .getfield 2594), (1, .iload 1), (1, .iload 2), (1, .iload 3), (3, .invokeinterface 1044 17), (1, .ireturn)])])
def ax_m_10_38 : ax_M := (⟨"ShakingCourt", "years", "(III)I"⟩, prog_1_method_40_code, 4, (some .int), 1, [
  (0, [(1, .iload 1), (1, .iconst 0), (3, .iconst 9999), (3, .invokeinterface 1322 12), (3, .ifCond .eq 30), (1, .iload 2), (1, .iconst 1), (2, .iconst 99), (3, .invokeinterface 1322 12), (3, .ifCond .eq 30), (1, .iload 3), (1, .iconst 0), (1, .iconst 2), (3, .invokeinterface 1322 12), (3, .ifCond .ne 32)]),
  (30, [(1, .iconst (-1)), (1, .ireturn)]),
  (32, [(1, .aload 0), (3, .getfield 2594), (1, .iload 1), (1, .iload 2), (1, .iload 3), (3, .invokeinterface 1049 17), (1, .ireturn)])])
def ax_m_10_39 : ax_M := (⟨"ShakingCourt", "mark", "(IZ)Z"⟩, prog_1_method_41_code, 3, (some .boolean), 1, [
  (0, [(1, .iload 1), (1, .iconst 0), (1, .iconst 3), (3, .invokeinterface 1322 12), (3, .ifCond .ne 11), (1, .iconst 0), (1, .ireturn)]),
  (11, [(1, .iload 2), (3, .ifCond .eq 32), (1, .aload 0), (3, .getfield 2586), (1, .iload 1), (1, .aload 0), (3, .getfield 2578), (1, .aload 0), (3, .getfield 2582), (3, .invokeinterface 517 17), (1, .ireturn)]),
  (32, [(1, .aload 0), (3, .getfield 2586), (1, .iload 1), (1, .aload 0), (3, .getfield 2578), (1, .aload 0), (3, .getfield 2582), (3, .invokeinterface 516 17), (1, .iconst 1), (1, .ireturn)])])
def ax_m_10_40 : ax_M := (⟨"ShakingCourt", "count", "(I)I"⟩, prog_1_method_42_code, 2, (some .int), 1, [
  (0, [(1, .iload 1), (63, .tableswitch 175 0 11 #[64, 72, 80, 88, 103, 119, 127, 135, 143, 151, 159, 167])]),
  (64, [(1, .aload 0), (3, .getfield 2578), (3, .getfield 0), (1, .ireturn)]),
  (72, [(1, .aload 0), (3, .getfield 2578), (3, .getfield 4), (1, .ireturn)]),
  (80, [(1, .aload 0), (3, .getfield 2578), (3, .getfield 8), (1, .ireturn)]),
  (88, [(1, .aload 0), (3, .getfield 2570), (1, .aload 0), (3, .getfield 2578), (3, .getfield 8), (3, .invokeinterface 136 9), (1, .ireturn)]),
  (103, [(1, .aload 0), (3, .getfield 2578), (1, .iconst 0), (1, .aload 0), (3, .getfield 2578), (3, .getfield 0), (3, .invokeinterface 25 13), (1, .ireturn)]),
  (119, [(1, .aload 0), (3, .getfield 2578), (3, .getfield 12), (1, .ireturn)]),
  (127, [(1, .aload 0), (3, .getfield 2578), (3, .invokeinterface 17 5), (1, .ireturn)]),
  (135, [(1, .aload 0), (3, .getfield 2578), (3, .invokeinterface 16 5), (1, .ireturn)]),
  (143, [(1, .aload 0), (3, .getfield 2574), (3, .getfield 1792), (1, .ireturn)]),
  (151, [(1, .aload 0), (3, .getfield 2582), (3, .getfield 512), (1, .ireturn)]),
  (159, [(1, .aload 0), (3, .getfield 2586), (3, .getfield 1032), (1, .ireturn)]),
  (167, [(1, .aload 0), (3, .getfield 2562), (3, .getfield 2308), (1, .ireturn)]),
  (175, [(1, .iconst (-1)), (1, .ireturn)])])
def ax_m_10_41 : ax_M := (⟨"ShakingCourt", "actByHand", "(III)Z"⟩, prog_1_method_43_code, 4, (some .boolean), 1, [
  (0, [(1, .aload 0), (3, .getfield 2578), (1, .iload 1), (1, .iload 2), (1, .iload 3), (3, .invokeinterface 7 17), (3, .ifCond .ne 15), (1, .iconst 0), (1, .ireturn)]),
  (15, [(1, .aload 0), (3, .getfield 2586), (1, .aload 0), (3, .getfield 2578), (3, .invokeinterface 514 9), (1, .aload 0), (3, .getfield 2578), (1, .iload 1), (1, .iload 2), (1, .iload 3), (3, .invokeinterface 8 17), (1, .iconst 1), (1, .ireturn)])])
def ax_m_10_42 : ax_M := (⟨"ShakingCourt", "isWithin", "(III)Z"⟩, prog_1_method_44_code, 3, (some .boolean), 0, [
  (0, [(1, .iload 0), (1, .iload 1), (3, .if_icmp .lt 14), (1, .iload 0), (1, .iload 2), (3, .if_icmp .gt 14), (1, .iconst 1), (3, .goto 15)]),
  (14, [(1, .iconst 0)]),
  (15, [(1, .ireturn)])])
def ax_m_11_0 : ax_M := (⟨"ShakingCourtModel", "thrown", "()I"⟩, prog_13_method_1_code, 1, (some .int), 1, [
  (0, [(1, .aload 0), (3, .getfield 2816), (1, .ireturn)])])
def ax_m_11_1 : ax_M := (⟨"ShakingCourtModel", "feed", "(JJJ)I"⟩, prog_13_method_2_code, 7, (some .int), 1, [
  (0, [(1, .aload 0), (1, .iconst 0), (3, .putfield 2816), (1, .aload 0), (1, .lload 1), (3, .invokeinterface 1410 9), (1, .aload 0), (1, .lload 3), (3, .invokeinterface 1410 9), (1, .aload 0), (2, .lload 5), (3, .invokeinterface 1410 9), (1, .aload 0), (3, .getfield 2824), (1, .ireturn)])])
def ax_m_11_2 : ax_M := (⟨"ShakingCourtModel", "lay", "(J)V"⟩, prog_13_method_3_code, 5, none, 1, [
  (0, [(2, .iconst 56), (1, .istore 3)]),
  (3, [(1, .iload 3), (3, .ifCond .lt 75), (1, .lload 1), (1, .iload 3), (1, .lshr), (1, .l2i), (3, .iconst 255), (1, .iand), (2, .istore 4), (2, .iload 4), (2, .iconst 10), (3, .if_icmp .eq 38), (2, .iload 4), (2, .iconst 32), (3, .if_icmp .lt 69), (2, .iload 4), (2, .iconst 126), (3, .if_icmp .gt 69)]),
  (38, [(1, .aload 0), (3, .getfield 2824), (3, .iconst 1000), (3, .if_icmp .ge 69), (1, .aload 0), (3, .getfield 2822), (1, .aload 0), (3, .getfield 2824), (2, .iload 4), (1, .iastore), (1, .aload 0), (1, .dup), (3, .getfield 2824), (1, .iconst 1), (1, .iadd), (3, .putfield 2824)]),
  (69, [(3, .iinc 3 (-8)), (3, .goto 3)]),
  (75, [(1, .return_)])])
def ax_m_11_3 : ax_M := (⟨"ShakingCourtModel", "<init>", "()V"⟩, prog_13_method_4_code, 1, none, 2, [
  (0, [(1, .aload 0), (3, .invokedynamic 0), (1, .aload 0), (3, .iconst 1000), (2, .newarray .int), (3, .putstatic 2822), (1, .aload 0), (3, .iconst 1002), (2, .newarray .int), (3, .putstatic 2834), (1, .aload 0), (3, .iconst 1002), (2, .newarray .int), (3, .putstatic 2838), (1, .aload 0), (3, .iconst 1002), (2, .newarray .long), (3, .putstatic 2842), (1, .aload 0), (2, .iconst 24), (2, .newarray .long), (1, .dup), (1, .iconst 0), (3, .goto_w 5892639), (1, .lastore), (1, .dup), (1, .iconst 1), (3, .goto_w 324772511113), (1, .lastore), (1, .dup), (1, .iconst 2), (3, .goto_w 57), (1, .lastore), (1, .dup), (1, .iconst 3), (3, .goto_w 23284001), (1, .lastore), (1, .dup), (1, .iconst 4), (3, .goto_w 412126), (1, .lastore), (1, .dup), (1, .iconst 5), (3, .goto_w 11301299), (1, .lastore), (1, .dup), (2, .iconst 6), (3, .goto_w 33989699), (1, .lastore), (1, .dup), (2, .iconst 7), (3, .goto_w 38271883), (1, .lastore), (1, .dup), (2, .iconst 8), (3, .goto_w 6389093183), (1, .lastore), (1, .dup), (2, .iconst 9), (3, .goto_w 325130), (1, .lastore), (1, .dup), (2, .iconst 10), (3, .goto_w 1042489), (1, .lastore), (1, .dup), (2, .iconst 11), (3, .goto_w 223095242), (1, .lastore), (1, .dup), (2, .iconst 12), (3, .goto_w 108208), (1, .lastore), (1, .dup), (2, .iconst 13), (3, .goto_w 30596128), (1, .lastore), (1, .dup), (2, .iconst 14), (3, .goto_w 36440611), (1, .lastore), (1, .dup), (2, .iconst 15), (3, .goto_w 6040476), (1, .lastore), (1, .dup), (2, .iconst 16), (3, .goto_w 660195), (1, .lastore), (1, .dup), (2, .iconst 17), (3, .goto_w 19741), (1, .lastore), (1, .dup), (2, .iconst 18), (3, .goto_w 1891), (1, .lastore), (1, .dup), (2, .iconst 19), (3, .goto_w 573), (1, .lastore), (1, .dup), (2, .iconst 20), (3, .goto_w 1167207), (1, .lastore), (1, .dup), (2, .iconst 21), (3, .goto_w 1167067), (1, .lastore), (1, .dup), (2, .iconst 22), (3, .goto_w 1025867), (1, .lastore), (1, .dup), (2, .iconst 23), (3, .goto_w 15248608), (1, .lastore), (3, .putstatic 2854), (1, .aload 0), (2, .iconst 80), (2, .newarray .int), (3, .putstatic 2858), (1, .aload 0), (3, .iconst 2200), (2, .newarray .int), (3, .putstatic 2862), (1, .aload 0), (3, .iconst 2200), (2, .newarray .int), (3, .putstatic 2866), (1, .aload 0), (2, .iconst 6), (2, .newarray .long), (3, .putstatic 2874), (1, .aload 0), (2, .iconst 6), (2, .newarray .long), (3, .putstatic 2878), (1, .aload 0), (3, .iconst 250), (2, .newarray .int), (3, .putstatic 2898), (1, .aload 0), (1, .iconst 4), (2, .newarray .int), (3, .putstatic 2902), (1, .aload 0), (3, .iconst 1100), (2, .newarray .int), (3, .putstatic 2906), (1, .aload 0), (3, .iconst 1196), (2, .newarray .int), (3, .putstatic 2910), (1, .aload 0), (1, .iconst 4), (2, .newarray .boolean), (3, .putstatic 2918), (1, .aload 0), (2, .iconst 12), (2, .newarray .int), (3, .putstatic 2922), (1, .aload 0), (3, .iconst 1200), (2, .newarray .int), (3, .putstatic 2926), (1, .aload 0), (1, .iconst 0), (3, .invokeinterface 1425 9), (1, .aload 0), (3, .invokeinterface 1448 5), (1, .return_)])])
def ax_m_11_4 : ax_M := (⟨"ShakingCourtModel", "isLetter", "(I)Z"⟩, prog_13_method_5_code, 1, (some .boolean), 0, [
  (0, [(1, .iload 0), (2, .iconst 97), (3, .if_icmp .lt 16), (1, .iload 0), (2, .iconst 122), (3, .if_icmp .gt 16), (1, .iconst 1), (3, .goto 17)]),
  (16, [(1, .iconst 0)]),
  (17, [(1, .ireturn)])])
def ax_m_11_5 : ax_M := (⟨"ShakingCourtModel", "isDigit", "(I)Z"⟩, prog_13_method_6_code, 1, (some .boolean), 0, [
  (0, [(1, .iload 0), (2, .iconst 48), (3, .if_icmp .lt 16), (1, .iload 0), (2, .iconst 57), (3, .if_icmp .gt 16), (1, .iconst 1), (3, .goto 17)]),
  (16, [(1, .iconst 0)]),
  (17, [(1, .ireturn)])])
def ax_m_11_6 : ax_M := (⟨"ShakingCourtModel", "rank", "(I)I"⟩, prog_13_method_7_code, 1, (some .int), 0, [
  (0, [(1, .iload 0), (3, .invokeinterface 1412 4), (3, .ifCond .eq 14), (1, .iload 0), (2, .iconst 96), (1, .isub), (3, .goto 18)]),
  (14, [(1, .iload 0), (2, .iconst 21), (1, .isub)]),
  (18, [(1, .ireturn)])])
def ax_m_11_7 : ax_M := (⟨"ShakingCourtModel", "isSignOf", "(I)Z"⟩, prog_13_method_8_code, 1, (some .boolean), 0, [
  (0, [(1, .iload 0), (2, .iconst 40), (3, .if_icmp .eq 48), (1, .iload 0), (2, .iconst 41), (3, .if_icmp .eq 48), (1, .iload 0), (2, .iconst 59), (3, .if_icmp .eq 48), (1, .iload 0), (2, .iconst 61), (3, .if_icmp .eq 48), (1, .iload 0), (2, .iconst 60), (3, .if_icmp .eq 48), (1, .iload 0), (2, .iconst 43), (3, .if_icmp .eq 48), (1, .iload 0), (2, .iconst 45), (3, .if_icmp .eq 48), (1, .iload 0), (2, .iconst 42), (3, .if_icmp .ne 52)]),
  (48, [(1, .iconst 1), (3, .goto 53)]),
  (52, [(1, .iconst 0)]),
  (53, [(1, .ireturn)])])
def ax_m_11_8 : ax_M := (⟨"ShakingCourtModel", "cutAll", "()V"⟩, prog_13_method_9_code, 7, none, 1, [
  (0, [(1, .aload 0), (1, .aload 0), (3, .getfield 2824), (3, .putfield 2828), (1, .aload 0), (1, .iconst 0), (3, .putfield 2824), (1, .iconst 0), (1, .istore 1), (1, .iconst 0), (1, .istore 2)]),
  (17, [(1, .iload 2), (1, .aload 0), (3, .getfield 2828), (3, .if_icmp .ge 279), (1, .aload 0), (3, .getfield 2822), (1, .iload 2), (1, .iaload), (1, .istore 3), (1, .iload 3), (2, .iconst 10), (3, .if_icmp .eq 44), (1, .iload 3), (2, .iconst 32), (3, .if_icmp .ne 50)]),
  (44, [(3, .iinc 2 1), (3, .goto 17)]),
  (50, [(1, .iload 2), (2, .istore 4), (1, .goto_w 0), (2, .lstore 5), (1, .aload 0), (3, .getfield 2838), (1, .iload 1), (1, .iload 2), (1, .iastore), (1, .iload 3), (3, .invokeinterface 1412 4), (3, .ifCond .eq 152)]),
  (70, [(1, .iload 2), (1, .aload 0), (3, .getfield 2828), (3, .if_icmp .ge 129), (1, .aload 0), (3, .getfield 2822), (1, .iload 2), (1, .iaload), (3, .invokeinterface 1412 4), (3, .ifCond .eq 129), (1, .iload 2), (2, .iload 4), (1, .isub), (2, .iconst 8), (3, .if_icmp .ge 119), (3, .goto_w 37), (2, .lload 5), (1, .lmul), (1, .aload 0), (3, .getfield 2822), (1, .iload 2), (1, .iaload), (3, .invokeinterface 1414 4), (1, .i2l), (1, .ladd), (3, .goto 121)]),
  (119, [(2, .lload 5)]),
  (121, [(2, .lstore 5), (3, .iinc 2 1), (3, .goto 70)]),
  (129, [(1, .aload 0), (3, .getfield 2834), (1, .iload 1), (1, .iload 2), (2, .iload 4), (1, .isub), (2, .iconst 8), (3, .if_icmp .le 147), (1, .iconst 4), (3, .goto 148)]),
  (147, [(1, .iconst 1)]),
  (148, [(1, .iastore), (3, .goto 265)]),
  (152, [(1, .iload 3), (3, .invokeinterface 1413 4), (3, .ifCond .eq 240)]),
  (159, [(1, .iload 2), (1, .aload 0), (3, .getfield 2828), (3, .if_icmp .ge 218), (1, .aload 0), (3, .getfield 2822), (1, .iload 2), (1, .iaload), (3, .invokeinterface 1413 4), (3, .ifCond .eq 218), (1, .iload 2), (2, .iload 4), (1, .isub), (1, .iconst 4), (3, .if_icmp .ge 208), (3, .goto_w 10), (2, .lload 5), (1, .lmul), (1, .aload 0), (3, .getfield 2822), (1, .iload 2), (1, .iaload), (1, .i2l), (1, .ladd), (3, .goto_w 48), (1, .lsub), (3, .goto 210)]),
  (208, [(2, .lload 5)]),
  (210, [(2, .lstore 5), (3, .iinc 2 1), (3, .goto 159)]),
  (218, [(1, .aload 0), (3, .getfield 2834), (1, .iload 1), (1, .iload 2), (2, .iload 4), (1, .isub), (1, .iconst 4), (3, .if_icmp .le 235), (1, .iconst 4), (3, .goto 236)]),
  (235, [(1, .iconst 2)]),
  (236, [(1, .iastore), (3, .goto 265)]),
  (240, [(1, .iload 3), (1, .i2l), (2, .lstore 5), (1, .aload 0), (3, .getfield 2834), (1, .iload 1), (1, .iload 3), (3, .invokeinterface 1415 4), (3, .ifCond .eq 260), (1, .iconst 3), (3, .goto 261)]),
  (260, [(1, .iconst 4)]),
  (261, [(1, .iastore), (3, .iinc 2 1)]),
  (265, [(1, .aload 0), (3, .getfield 2842), (1, .iload 1), (2, .lload 5), (1, .lastore), (3, .iinc 1 1), (3, .goto 17)]),
  (279, [(1, .aload 0), (3, .getfield 2834), (1, .iload 1), (1, .iconst 0), (1, .iastore), (1, .aload 0), (3, .getfield 2838), (1, .iload 1), (1, .aload 0), (3, .getfield 2828), (1, .iastore), (1, .aload 0), (1, .iconst 0), (3, .putfield 2844), (1, .aload 0), (1, .iconst 0), (3, .putfield 2848), (1, .return_)])])
def ax_m_11_9 : ax_M := (⟨"ShakingCourtModel", "wrong", "(I)V"⟩, prog_13_method_10_code, 2, none, 1, [
  (0, [(1, .aload 0), (3, .getfield 2848), (3, .ifCond .ne 25), (1, .aload 0), (1, .iload 1), (2, .iconst 16), (1, .aload 0), (3, .getfield 2838), (1, .aload 0), (3, .getfield 2844), (1, .iaload), (1, .imul), (1, .iadd), (3, .putfield 2848)]),
  (25, [(1, .return_)])])
def ax_m_11_10 : ax_M := (⟨"ShakingCourtModel", "isSign", "(I)Z"⟩, prog_13_method_11_code, 2, (some .boolean), 1, [
  (0, [(1, .aload 0), (3, .getfield 2848), (3, .ifCond .ne 39), (1, .aload 0), (3, .getfield 2834), (1, .aload 0), (3, .getfield 2844), (1, .iaload), (1, .iconst 3), (3, .if_icmp .ne 39), (1, .aload 0), (3, .getfield 2842), (1, .aload 0), (3, .getfield 2844), (1, .laload), (1, .iload 1), (1, .i2l), (1, .lcmp), (3, .ifCond .ne 39), (1, .iconst 1), (3, .goto 40)]),
  (39, [(1, .iconst 0)]),
  (40, [(1, .ireturn)])])
def ax_m_11_11 : ax_M := (⟨"ShakingCourtModel", "isWord", "(I)Z"⟩, prog_13_method_12_code, 2, (some .boolean), 1, [
  (0, [(1, .aload 0), (3, .getfield 2848), (3, .ifCond .ne 43), (1, .aload 0), (3, .getfield 2834), (1, .aload 0), (3, .getfield 2844), (1, .iaload), (1, .iconst 1), (3, .if_icmp .ne 43), (1, .aload 0), (3, .getfield 2842), (1, .aload 0), (3, .getfield 2844), (1, .laload), (1, .aload 0), (3, .getfield 2854), (1, .iload 1), (1, .laload), (1, .lcmp), (3, .ifCond .ne 43), (1, .iconst 1), (3, .goto 44)]),
  (43, [(1, .iconst 0)]),
  (44, [(1, .ireturn)])])
def ax_m_11_12 : ax_M := (⟨"ShakingCourtModel", "takeSign", "(I)V"⟩, prog_13_method_13_code, 2, none, 1, [
  (0, [(1, .aload 0), (1, .iload 1), (3, .invokeinterface 1418 9), (3, .ifCond .eq 21), (1, .aload 0), (1, .dup), (3, .getfield 2844), (1, .iconst 1), (1, .iadd), (3, .putfield 2844), (3, .goto 26)]),
  (21, [(1, .aload 0), (1, .iconst 1), (3, .invokeinterface 1417 9)]),
  (26, [(1, .return_)])])
def ax_m_11_13 : ax_M := (⟨"ShakingCourtModel", "hasSign", "(I)Z"⟩, prog_13_method_14_code, 3, (some .boolean), 1, [
  (0, [(1, .aload 0), (1, .iload 1), (3, .invokeinterface 1418 9), (1, .istore 2), (1, .aload 0), (1, .dup), (3, .getfield 2844), (1, .iload 2), (3, .ifCond .eq 19), (1, .iconst 1), (3, .goto 20)]),
  (19, [(1, .iconst 0)]),
  (20, [(1, .iadd), (3, .putfield 2844), (1, .iload 2), (1, .ireturn)])])
def ax_m_11_14 : ax_M := (⟨"ShakingCourtModel", "hasWord", "(I)Z"⟩, prog_13_method_15_code, 3, (some .boolean), 1, [
  (0, [(1, .aload 0), (1, .iload 1), (3, .invokeinterface 1419 9), (1, .istore 2), (1, .aload 0), (1, .dup), (3, .getfield 2844), (1, .iload 2), (3, .ifCond .eq 19), (1, .iconst 1), (3, .goto 20)]),
  (19, [(1, .iconst 0)]),
  (20, [(1, .iadd), (3, .putfield 2844), (1, .iload 2), (1, .ireturn)])])
def ax_m_11_15 : ax_M := (⟨"ShakingCourtModel", "takeWord", "(I)V"⟩, prog_13_method_16_code, 2, none, 1, [
  (0, [(1, .aload 0), (1, .iload 1), (3, .invokeinterface 1422 9), (3, .ifCond .ne 13), (1, .aload 0), (1, .iconst 1), (3, .invokeinterface 1417 9)]),
  (13, [(1, .return_)])])
def ax_m_11_16 : ax_M := (⟨"ShakingCourtModel", "within", "(III)Z"⟩, prog_13_method_17_code, 3, (some .boolean), 0, [
  (0, [(1, .iload 0), (1, .iload 1), (3, .if_icmp .lt 14), (1, .iload 0), (1, .iload 2), (3, .if_icmp .gt 14), (1, .iconst 1), (3, .goto 15)]),
  (14, [(1, .iconst 0)]),
  (15, [(1, .ireturn)])])
def ax_m_11_17 : ax_M := (⟨"ShakingCourtModel", "standsAsAlways", "(I)V"⟩, prog_13_method_18_code, 3, none, 1, [
  (0, [(1, .iconst 0), (1, .istore 2)]),
  (2, [(1, .iload 2), (2, .iconst 40), (3, .if_icmp .ge 23), (1, .aload 0), (3, .getfield 2858), (1, .iload 1), (1, .iload 2), (1, .iadd), (1, .iconst 0), (1, .iastore), (3, .iinc 2 1), (3, .goto 2)]),
  (23, [(1, .aload 0), (3, .getfield 2858), (1, .iload 1), (1, .iconst 0), (1, .iadd), (2, .iconst 8), (1, .iastore), (1, .aload 0), (3, .getfield 2858), (1, .iload 1), (1, .iconst 2), (1, .iadd), (1, .iconst 1), (1, .iastore), (1, .aload 0), (3, .getfield 2858), (1, .iload 1), (2, .iconst 23), (1, .iadd), (1, .iconst 2), (1, .iastore), (1, .aload 0), (3, .getfield 2858), (1, .iload 1), (1, .iconst 3), (1, .iadd), (1, .iconst (-1)), (1, .iastore), (1, .aload 0), (3, .getfield 2858), (1, .iload 1), (1, .iconst 4), (1, .iadd), (1, .iconst (-1)), (1, .iastore), (1, .return_)])])
def ax_m_11_18 : ax_M := (⟨"ShakingCourtModel", "takeNumber", "(II)I"⟩, prog_13_method_19_code, 3, (some .int), 1, [
  (0, [(1, .aload 0), (3, .getfield 2848), (3, .ifCond .ne 28), (1, .aload 0), (3, .getfield 2834), (1, .aload 0), (3, .getfield 2844), (1, .iaload), (1, .iconst 2), (3, .if_icmp .eq 28), (1, .aload 0), (1, .iconst 1), (3, .invokeinterface 1417 9), (3, .goto 70)]),
  (28, [(1, .aload 0), (3, .getfield 2848), (3, .ifCond .ne 70), (1, .aload 0), (3, .getfield 2842), (1, .aload 0), (3, .getfield 2844), (1, .laload), (1, .iload 1), (1, .i2l), (1, .lcmp), (3, .ifCond .lt 65), (1, .aload 0), (3, .getfield 2842), (1, .aload 0), (3, .getfield 2844), (1, .laload), (1, .iload 2), (1, .i2l), (1, .lcmp), (3, .ifCond .le 70)]),
  (65, [(1, .aload 0), (1, .iconst 4), (3, .invokeinterface 1417 9)]),
  (70, [(1, .aload 0), (3, .getfield 2848), (3, .ifCond .le 79), (1, .iconst 0), (1, .ireturn)]),
  (79, [(1, .aload 0), (1, .dup), (3, .getfield 2844), (1, .iconst 1), (1, .iadd), (3, .putfield 2844), (1, .aload 0), (3, .getfield 2842), (1, .aload 0), (3, .getfield 2844), (1, .iconst 1), (1, .isub), (1, .laload), (1, .l2i), (1, .ireturn)])])
def ax_m_11_19 : ax_M := (⟨"ShakingCourtModel", "takeAfter", "(III)I"⟩, prog_13_method_20_code, 4, (some .int), 1, [
  (0, [(1, .aload 0), (1, .iload 1), (3, .invokeinterface 1423 9), (1, .aload 0), (1, .iload 2), (1, .iload 3), (3, .invokeinterface 1426 13), (1, .ireturn)])])
def ax_m_11_20 : ax_M := (⟨"ShakingCourtModel", "wordHere", "(II)I"⟩, prog_13_method_21_code, 5, (some .int), 1, [
  (0, [(1, .iconst (-1)), (1, .istore 3), (1, .iconst 0), (2, .istore 4)]),
  (5, [(2, .iload 4), (1, .iload 2), (3, .if_icmp .ge 35), (1, .aload 0), (1, .iload 1), (2, .iload 4), (1, .iadd), (3, .invokeinterface 1419 9), (3, .ifCond .eq 27), (2, .iload 4), (3, .goto 28)]),
  (27, [(1, .iload 3)]),
  (28, [(1, .istore 3), (3, .iinc 4 1), (3, .goto 5)]),
  (35, [(1, .iload 3), (1, .ireturn)])])
def ax_m_11_21 : ax_M := (⟨"ShakingCourtModel", "takeOne", "(II)I"⟩, prog_13_method_22_code, 4, (some .int), 1, [
  (0, [(1, .aload 0), (3, .getfield 2848), (3, .ifCond .le 11), (1, .iconst (-1)), (3, .goto 17)]),
  (11, [(1, .aload 0), (1, .iload 1), (1, .iload 2), (3, .invokeinterface 1428 13)]),
  (17, [(1, .istore 3), (1, .aload 0), (3, .getfield 2848), (3, .ifCond .ne 34), (1, .iload 3), (3, .ifCond .ge 34), (1, .aload 0), (1, .iconst 1), (3, .invokeinterface 1417 9)]),
  (34, [(1, .aload 0), (1, .dup), (3, .getfield 2844), (1, .aload 0), (3, .getfield 2848), (3, .ifCond .le 50), (1, .iconst 0), (3, .goto 51)]),
  (50, [(1, .iconst 1)]),
  (51, [(1, .iadd), (3, .putfield 2844), (1, .aload 0), (3, .getfield 2848), (3, .ifCond .le 66), (1, .iconst 0), (3, .goto 67)]),
  (66, [(1, .iload 3)]),
  (67, [(1, .ireturn)])])
def ax_m_11_22 : ax_M := (⟨"ShakingCourtModel", "isName", "()Z"⟩, prog_13_method_23_code, 1, (some .boolean), 1, [
  (0, [(1, .aload 0), (3, .getfield 2848), (3, .ifCond .ne 34), (1, .aload 0), (3, .getfield 2834), (1, .aload 0), (3, .getfield 2844), (1, .iaload), (1, .iconst 1), (3, .if_icmp .ne 34), (1, .aload 0), (1, .iconst 0), (2, .iconst 20), (3, .invokeinterface 1428 13), (3, .ifCond .ge 34), (1, .iconst 1), (3, .goto 35)]),
  (34, [(1, .iconst 0)]),
  (35, [(1, .ireturn)])])
def ax_m_11_23 : ax_M := (⟨"ShakingCourtModel", "nameAt", "(Z)I"⟩, prog_13_method_24_code, 3, (some .int), 1, [
  (0, [(1, .iconst 0), (1, .istore 2)]),
  (2, [(1, .iload 2), (1, .iload 1), (3, .ifCond .eq 14), (1, .aload 0), (3, .getfield 2884), (3, .goto 18)]),
  (14, [(1, .aload 0), (3, .getfield 2880)]),
  (18, [(3, .if_icmp .ge 61), (1, .iload 1), (3, .ifCond .eq 34), (1, .aload 0), (3, .getfield 2878), (1, .iload 2), (1, .laload), (3, .goto 40)]),
  (34, [(1, .aload 0), (3, .getfield 2874), (1, .iload 2), (1, .laload)]),
  (40, [(1, .aload 0), (3, .getfield 2842), (1, .aload 0), (3, .getfield 2844), (1, .laload), (1, .lcmp), (3, .ifCond .ne 55), (1, .iload 2), (1, .ireturn)]),
  (55, [(3, .iinc 2 1), (3, .goto 2)]),
  (61, [(1, .iconst (-1)), (1, .ireturn)])])
def ax_m_11_24 : ax_M := (⟨"ShakingCourtModel", "takeTold", "(I)I"⟩, prog_13_method_25_code, 3, (some .int), 1, [
  (0, [(1, .aload 0), (3, .getfield 2848), (3, .ifCond .ne 19), (1, .aload 0), (3, .invokeinterface 1430 5), (3, .ifCond .ne 19), (1, .aload 0), (1, .iconst 1), (3, .invokeinterface 1417 9)]),
  (19, [(1, .aload 0), (3, .getfield 2848), (3, .ifCond .le 30), (1, .iconst (-1)), (3, .goto 35)]),
  (30, [(1, .aload 0), (1, .iconst 0), (3, .invokeinterface 1431 9)]),
  (35, [(1, .istore 2), (1, .aload 0), (3, .getfield 2848), (3, .ifCond .ne 55), (1, .iload 2), (3, .ifCond .ge 55), (1, .aload 0), (1, .iconst 2), (3, .invokeinterface 1417 9), (3, .goto 72)]),
  (55, [(1, .aload 0), (3, .getfield 2848), (3, .ifCond .ne 72), (1, .iload 2), (1, .iload 1), (3, .if_icmp .ne 72), (1, .aload 0), (1, .iconst 3), (3, .invokeinterface 1417 9)]),
  (72, [(1, .aload 0), (1, .dup), (3, .getfield 2844), (1, .aload 0), (3, .getfield 2848), (3, .ifCond .le 88), (1, .iconst 0), (3, .goto 89)]),
  (88, [(1, .iconst 1)]),
  (89, [(1, .iadd), (3, .putfield 2844), (1, .aload 0), (3, .getfield 2848), (3, .ifCond .le 104), (1, .iconst 0), (3, .goto 105)]),
  (104, [(1, .iload 2)]),
  (105, [(1, .ireturn)])])
def ax_m_11_25 : ax_M := (⟨"ShakingCourtModel", "court", "()I"⟩, prog_13_method_26_code, 2, (some .int), 1, [
  (0, [(1, .aload 0), (1, .iconst 0), (3, .putfield 2816), (1, .aload 0), (3, .invokeinterface 1416 5), (1, .aload 0), (1, .iconst 0), (3, .putfield 2868), (1, .aload 0), (1, .iconst 0), (3, .putfield 2884), (1, .aload 0), (1, .iconst 0), (3, .putfield 2888), (1, .aload 0), (2, .iconst 40), (3, .invokeinterface 1425 9)]),
  (30, [(1, .aload 0), (3, .getfield 2848), (3, .ifCond .ne 77), (1, .aload 0), (3, .getfield 2834), (1, .aload 0), (3, .getfield 2844), (1, .iaload), (3, .ifCond .eq 77), (1, .aload 0), (1, .iconst 1), (3, .invokeinterface 1419 9), (3, .ifCond .eq 64), (1, .aload 0), (3, .invokeinterface 1434 5), (3, .goto 68)]),
  (64, [(1, .aload 0), (3, .invokeinterface 1435 5)]),
  (68, [(1, .aload 0), (2, .iconst 59), (3, .invokeinterface 1420 9), (3, .goto 30)]),
  (77, [(1, .aload 0), (3, .getfield 2848), (3, .ifCond .le 89), (1, .aload 0), (3, .getfield 2848), (1, .ireturn)]),
  (89, [(1, .iconst 0), (1, .istore 1)]),
  (91, [(1, .iload 1), (2, .iconst 40), (3, .if_icmp .ge 118), (1, .aload 0), (3, .getfield 2858), (1, .iload 1), (1, .aload 0), (3, .getfield 2858), (2, .iconst 40), (1, .iload 1), (1, .iadd), (1, .iaload), (1, .iastore), (3, .iinc 1 1), (3, .goto 91)]),
  (118, [(1, .iconst 0), (1, .istore 1)]),
  (120, [(1, .iload 1), (1, .aload 0), (3, .getfield 2868), (3, .if_icmp .ge 166), (1, .aload 0), (3, .getfield 2862), (1, .iload 1), (1, .aload 0), (3, .getfield 2862), (3, .iconst 1100), (1, .iload 1), (1, .iadd), (1, .iaload), (1, .iastore), (1, .aload 0), (3, .getfield 2866), (1, .iload 1), (1, .aload 0), (3, .getfield 2866), (3, .iconst 1100), (1, .iload 1), (1, .iadd), (1, .iaload), (1, .iastore), (3, .iinc 1 1), (3, .goto 120)]),
  (166, [(1, .iconst 0), (1, .istore 1)]),
  (168, [(1, .iload 1), (1, .aload 0), (3, .getfield 2884), (3, .if_icmp .ge 194), (1, .aload 0), (3, .getfield 2874), (1, .iload 1), (1, .aload 0), (3, .getfield 2878), (1, .iload 1), (1, .laload), (1, .lastore), (3, .iinc 1 1), (3, .goto 168)]),
  (194, [(1, .aload 0), (1, .aload 0), (3, .getfield 2884), (3, .putfield 2880), (1, .aload 0), (3, .invokeinterface 1448 5), (1, .iconst 0), (1, .ireturn)])])
def ax_m_11_26 : ax_M := (⟨"ShakingCourtModel", "readCourtier", "()V"⟩, prog_13_method_27_code, 7, none, 1, [
  (0, [(1, .aload 0), (3, .getfield 2884), (2, .iconst 6), (3, .if_icmp .ne 15), (1, .aload 0), (1, .iconst 5), (3, .invokeinterface 1417 9), (1, .return_)]),
  (15, [(1, .aload 0), (1, .dup), (3, .getfield 2844), (1, .iconst 1), (1, .iadd), (3, .putfield 2844), (1, .aload 0), (3, .invokeinterface 1430 5), (3, .ifCond .ne 40), (1, .aload 0), (1, .iconst 1), (3, .invokeinterface 1417 9), (3, .goto 53)]),
  (40, [(1, .aload 0), (1, .iconst 1), (3, .invokeinterface 1431 9), (3, .ifCond .lt 53), (1, .aload 0), (1, .iconst 3), (3, .invokeinterface 1417 9)]),
  (53, [(1, .aload 0), (3, .getfield 2848), (3, .ifCond .le 61), (1, .return_)]),
  (61, [(1, .aload 0), (3, .getfield 2842), (1, .aload 0), (3, .getfield 2844), (1, .laload), (1, .lstore 1), (1, .aload 0), (1, .dup), (3, .getfield 2844), (1, .iconst 1), (1, .iadd), (3, .putfield 2844), (1, .aload 0), (2, .iconst 13), (1, .iconst 4), (3, .invokeinterface 1429 13), (1, .istore 3), (1, .aload 0), (1, .iconst 2), (1, .iconst 0), (2, .iconst 11), (3, .invokeinterface 1427 17), (2, .istore 4), (1, .aload 0), (1, .iconst 3), (1, .iconst 0), (2, .iconst 9), (3, .invokeinterface 1427 17), (2, .istore 5), (1, .aload 0), (3, .getfield 2848), (3, .ifCond .ne 188), (2, .iconst 45), (1, .iconst 3), (1, .aload 0), (3, .getfield 2884), (1, .imul), (1, .iadd), (2, .istore 6), (1, .aload 0), (3, .getfield 2858), (2, .iload 6), (1, .iload 3), (1, .iastore), (1, .aload 0), (3, .getfield 2858), (2, .iload 6), (1, .iconst 1), (1, .iadd), (2, .iload 4), (1, .iastore), (1, .aload 0), (3, .getfield 2858), (2, .iload 6), (1, .iconst 2), (1, .iadd), (2, .iload 5), (1, .iastore), (1, .aload 0), (3, .getfield 2878), (1, .aload 0), (3, .getfield 2884), (1, .lload 1), (1, .lastore), (1, .aload 0), (1, .dup), (3, .getfield 2884), (1, .iconst 1), (1, .iadd), (3, .putfield 2884), (1, .aload 0), (3, .getfield 2858), (2, .iconst 41), (1, .aload 0), (3, .getfield 2884), (1, .iastore)]),
  (188, [(1, .return_)])])
def ax_m_11_27 : ax_M := (⟨"ShakingCourtModel", "readOnce", "()V"⟩, prog_13_method_28_code, 2, none, 1, [
  (0, [(1, .aload 0), (1, .iconst 0), (3, .invokeinterface 1419 9), (3, .ifCond .eq 12), (1, .iconst 0), (3, .goto 20)]),
  (12, [(1, .aload 0), (1, .iconst 4), (1, .iconst 3), (3, .invokeinterface 1428 13), (1, .iconst 1), (1, .iadd)]),
  (20, [(1, .istore 1), (1, .iload 1), (3, .ifCond .ne 41), (1, .aload 0), (1, .iconst 0), (3, .invokeinterface 1419 9), (3, .ifCond .ne 41), (1, .aload 0), (1, .iconst 1), (3, .invokeinterface 1417 9), (3, .goto 58)]),
  (41, [(1, .aload 0), (3, .getfield 2888), (1, .iload 1), (1, .ishr), (1, .iconst 1), (1, .iand), (1, .iconst 1), (3, .if_icmp .ne 58), (1, .aload 0), (1, .iconst 3), (3, .invokeinterface 1417 9)]),
  (58, [(1, .aload 0), (3, .getfield 2848), (3, .ifCond .le 66), (1, .return_)]),
  (66, [(1, .aload 0), (1, .dup), (3, .getfield 2888), (1, .iconst 1), (1, .iload 1), (1, .ishl), (1, .ior), (3, .putfield 2888), (1, .aload 0), (1, .dup), (3, .getfield 2844), (1, .iconst 1), (1, .iadd), (3, .putfield 2844), (1, .iload 1), (3, .ifCond .ne 109), (1, .aload 0), (3, .getfield 2858), (2, .iconst 40), (1, .aload 0), (1, .iconst 3), (2, .iconst 12), (3, .invokeinterface 1426 13), (1, .iastore), (3, .goto 161)]),
  (109, [(1, .iload 1), (1, .iconst 1), (3, .if_icmp .ne 121), (1, .aload 0), (3, .invokeinterface 1436 5), (3, .goto 161)]),
  (121, [(1, .aload 0), (3, .getfield 2858), (2, .iconst 43), (1, .iload 1), (1, .iadd), (1, .iconst 2), (1, .isub), (1, .aload 0), (3, .getfield 2868), (1, .iastore), (1, .aload 0), (1, .iload 1), (1, .iconst 2), (3, .if_icmp .ne 146), (1, .iconst 3), (3, .goto 147)]),
  (146, [(1, .iconst 4)]),
  (147, [(3, .putfield 2892), (1, .aload 0), (1, .iconst 0), (3, .invokeinterface 1439 9), (1, .aload 0), (1, .iconst 0), (1, .iconst 0), (3, .invokeinterface 1438 13)]),
  (161, [(1, .return_)])])
def ax_m_11_28 : ax_M := (⟨"ShakingCourtModel", "readHeat", "()V"⟩, prog_13_method_29_code, 3, none, 1, [
  (0, [(1, .iconst 0), (1, .istore 1)]),
  (2, [(1, .aload 0), (3, .getfield 2848), (3, .ifCond .ne 87), (1, .iload 1), (3, .ifCond .eq 26), (1, .aload 0), (3, .getfield 2834), (1, .aload 0), (3, .getfield 2844), (1, .iaload), (1, .iconst 2), (3, .if_icmp .ne 87)]),
  (26, [(1, .aload 0), (1, .iconst 0), (1, .iconst 5), (3, .invokeinterface 1426 13), (1, .istore 2), (1, .aload 0), (3, .getfield 2848), (3, .ifCond .ne 64), (1, .iload 1), (2, .iconst 12), (3, .if_icmp .ne 64), (1, .aload 0), (1, .dup), (3, .getfield 2844), (1, .iconst 1), (1, .isub), (3, .putfield 2844), (1, .aload 0), (1, .iconst 5), (3, .invokeinterface 1417 9), (3, .goto 84)]),
  (64, [(1, .aload 0), (3, .getfield 2848), (3, .ifCond .ne 84), (1, .aload 0), (3, .getfield 2858), (2, .iconst 63), (1, .iload 1), (1, .iadd), (1, .iload 2), (1, .iastore), (3, .iinc 1 1)]),
  (84, [(3, .goto 2)]),
  (87, [(1, .aload 0), (3, .getfield 2858), (2, .iconst 42), (1, .iload 1), (1, .iastore), (1, .return_)])])
def ax_m_11_29 : ax_M := (⟨"ShakingCourtModel", "reign", "()I"⟩, prog_13_method_30_code, 4, (some .int), 1, [
  (0, [(1, .aload 0), (1, .iconst 0), (3, .putfield 2816), (1, .aload 0), (3, .invokeinterface 1416 5), (1, .iconst 0), (1, .istore 1)]),
  (11, [(1, .aload 0), (3, .getfield 2848), (3, .ifCond .ne 181), (1, .aload 0), (3, .getfield 2834), (1, .aload 0), (3, .getfield 2844), (1, .iaload), (3, .ifCond .eq 181), (1, .aload 0), (2, .iconst 7), (2, .iconst 6), (3, .invokeinterface 1428 13), (1, .istore 2), (1, .iload 2), (3, .ifCond .ge 51), (1, .aload 0), (1, .iconst 1), (3, .invokeinterface 1417 9), (3, .goto 172)]),
  (51, [(1, .iload 1), (2, .iconst 40), (3, .if_icmp .ne 65), (1, .aload 0), (1, .iconst 5), (3, .invokeinterface 1417 9), (3, .goto 172)]),
  (65, [(1, .aload 0), (1, .dup), (3, .getfield 2844), (1, .iconst 1), (1, .iadd), (3, .putfield 2844), (2, .iconst 125), (1, .iconst 3), (1, .iload 1), (1, .imul), (1, .iadd), (1, .istore 3), (1, .aload 0), (3, .getfield 2898), (1, .iload 3), (1, .iload 2), (1, .iastore), (1, .aload 0), (3, .getfield 2898), (1, .iload 3), (1, .iconst 1), (1, .iadd), (1, .iload 2), (1, .iconst 3), (3, .if_icmp .ge 111), (1, .aload 0), (1, .iconst 0), (2, .iconst 11), (3, .invokeinterface 1426 13), (3, .goto 125)]),
  (111, [(1, .iload 2), (1, .iconst 4), (3, .if_icmp .ne 124), (1, .aload 0), (1, .iconst (-1)), (3, .invokeinterface 1432 9), (3, .goto 125)]),
  (124, [(1, .iconst 0)]),
  (125, [(1, .iastore), (1, .aload 0), (3, .getfield 2898), (1, .iload 3), (1, .iconst 2), (1, .iadd), (1, .iload 2), (3, .ifCond .ne 147), (1, .aload 0), (1, .iconst 1), (2, .iconst 20), (3, .invokeinterface 1426 13), (3, .goto 168)]),
  (147, [(1, .iload 2), (1, .iconst 4), (3, .if_icmp .ne 167), (1, .aload 0), (1, .aload 0), (3, .getfield 2898), (1, .iload 3), (1, .iconst 1), (1, .iadd), (1, .iaload), (3, .invokeinterface 1432 9), (3, .goto 168)]),
  (167, [(1, .iconst 0)]),
  (168, [(1, .iastore), (3, .iinc 1 1)]),
  (172, [(1, .aload 0), (2, .iconst 59), (3, .invokeinterface 1420 9), (3, .goto 11)]),
  (181, [(1, .aload 0), (3, .getfield 2848), (3, .ifCond .le 193), (1, .aload 0), (3, .getfield 2848), (1, .ireturn)]),
  (193, [(1, .aload 0), (3, .getfield 2898), (1, .iconst 0), (1, .iload 1), (1, .iastore), (1, .iconst 0), (1, .istore 2)]),
  (202, [(1, .iload 2), (1, .iconst 3), (1, .iload 1), (1, .imul), (3, .if_icmp .ge 232), (1, .aload 0), (3, .getfield 2898), (1, .iconst 1), (1, .iload 2), (1, .iadd), (1, .aload 0), (3, .getfield 2898), (2, .iconst 125), (1, .iload 2), (1, .iadd), (1, .iaload), (1, .iastore), (3, .iinc 2 1), (3, .goto 202)]),
  (232, [(1, .iconst 0), (1, .ireturn)])])
def ax_m_11_30 : ax_M := (⟨"ShakingCourtModel", "emit", "(II)V"⟩, prog_13_method_31_code, 3, none, 1, [
  (0, [(1, .aload 0), (3, .getfield 2862), (3, .iconst 1100), (1, .aload 0), (3, .getfield 2868), (1, .iadd), (1, .iload 1), (1, .iastore), (1, .aload 0), (3, .getfield 2866), (3, .iconst 1100), (1, .aload 0), (3, .getfield 2868), (1, .iadd), (1, .iload 2), (1, .iastore), (1, .aload 0), (1, .dup), (3, .getfield 2868), (1, .iconst 1), (1, .iadd), (3, .putfield 2868), (1, .return_)])])
def ax_m_11_31 : ax_M := (⟨"ShakingCourtModel", "whole", "(I)V"⟩, prog_13_method_32_code, 3, none, 1, [
  (0, [(1, .aload 0), (1, .iload 1), (3, .invokeinterface 1440 9)]),
  (5, [(1, .aload 0), (2, .iconst 18), (3, .invokeinterface 1419 9), (3, .ifCond .ne 23), (1, .aload 0), (2, .iconst 19), (3, .invokeinterface 1419 9), (3, .ifCond .eq 64)]),
  (23, [(1, .aload 0), (2, .iconst 18), (3, .invokeinterface 1419 9), (1, .istore 2), (1, .aload 0), (1, .dup), (3, .getfield 2844), (1, .iconst 1), (1, .iadd), (3, .putfield 2844), (1, .aload 0), (1, .iload 1), (3, .invokeinterface 1440 9), (1, .aload 0), (1, .iload 2), (3, .ifCond .eq 55), (2, .iconst 9), (3, .goto 57)]),
  (55, [(2, .iconst 10)]),
  (57, [(1, .iconst 0), (3, .invokeinterface 1438 13), (3, .goto 5)]),
  (64, [(1, .return_)])])
def ax_m_11_32 : ax_M := (⟨"ShakingCourtModel", "test", "(I)V"⟩, prog_13_method_33_code, 3, none, 1, [
  (0, [(1, .aload 0), (1, .iload 1), (3, .invokeinterface 1441 9), (1, .aload 0), (2, .iconst 60), (3, .invokeinterface 1418 9), (1, .istore 2), (1, .aload 0), (2, .iconst 60), (3, .invokeinterface 1421 9), (3, .ifCond .ne 30), (1, .aload 0), (2, .iconst 61), (3, .invokeinterface 1421 9), (3, .ifCond .eq 51)]),
  (30, [(1, .aload 0), (1, .iload 1), (3, .invokeinterface 1441 9), (1, .aload 0), (1, .iload 2), (3, .ifCond .eq 45), (2, .iconst 7), (3, .goto 47)]),
  (45, [(2, .iconst 8)]),
  (47, [(1, .iconst 0), (3, .invokeinterface 1438 13)]),
  (51, [(1, .return_)])])
def ax_m_11_33 : ax_M := (⟨"ShakingCourtModel", "sums", "(I)V"⟩, prog_13_method_34_code, 3, none, 1, [
  (0, [(1, .aload 0), (1, .iload 1), (3, .invokeinterface 1442 9)]),
  (5, [(1, .aload 0), (2, .iconst 43), (3, .invokeinterface 1418 9), (3, .ifCond .ne 23), (1, .aload 0), (2, .iconst 45), (3, .invokeinterface 1418 9), (3, .ifCond .eq 62)]),
  (23, [(1, .aload 0), (2, .iconst 43), (3, .invokeinterface 1418 9), (1, .istore 2), (1, .aload 0), (1, .dup), (3, .getfield 2844), (1, .iconst 1), (1, .iadd), (3, .putfield 2844), (1, .aload 0), (1, .iload 1), (3, .invokeinterface 1442 9), (1, .aload 0), (1, .iload 2), (3, .ifCond .eq 54), (1, .iconst 4), (3, .goto 55)]),
  (54, [(1, .iconst 5)]),
  (55, [(1, .iconst 0), (3, .invokeinterface 1438 13), (3, .goto 5)]),
  (62, [(1, .return_)])])
def ax_m_11_34 : ax_M := (⟨"ShakingCourtModel", "products", "(I)V"⟩, prog_13_method_35_code, 2, none, 1, [
  (0, [(1, .aload 0), (1, .iload 1), (3, .invokeinterface 1443 9)]),
  (5, [(1, .aload 0), (2, .iconst 42), (3, .invokeinterface 1421 9), (3, .ifCond .eq 29), (1, .aload 0), (1, .iload 1), (3, .invokeinterface 1443 9), (1, .aload 0), (2, .iconst 6), (1, .iconst 0), (3, .invokeinterface 1438 13), (3, .goto 5)]),
  (29, [(1, .return_)])])
def ax_m_11_35 : ax_M := (⟨"ShakingCourtModel", "takePart", "(I)V"⟩, prog_13_method_36_code, 4, none, 1, [
  (0, [(1, .aload 0), (3, .getfield 2848), (3, .ifCond .le 8), (1, .return_)]),
  (8, [(1, .aload 0), (3, .getfield 2834), (1, .aload 0), (3, .getfield 2844), (1, .iaload), (1, .iconst 2), (3, .if_icmp .ne 25), (1, .iconst 1), (3, .goto 26)]),
  (25, [(1, .iconst 0)]),
  (26, [(1, .istore 2), (1, .aload 0), (2, .iconst 20), (1, .aload 0), (3, .getfield 2892), (3, .invokeinterface 1428 13), (1, .istore 3), (1, .iload 3), (3, .ifCond .ge 72), (1, .iload 2), (3, .ifCond .ne 72), (1, .aload 0), (2, .iconst 40), (3, .invokeinterface 1418 9), (3, .ifCond .ne 72), (1, .aload 0), (2, .iconst 17), (3, .invokeinterface 1419 9), (3, .ifCond .ne 72), (1, .aload 0), (1, .iconst 1), (3, .invokeinterface 1417 9), (3, .goto 82)]),
  (72, [(1, .iload 1), (1, .iconst 5), (3, .if_icmp .ne 82), (1, .aload 0), (1, .iconst 5), (3, .invokeinterface 1417 9)]),
  (82, [(1, .aload 0), (3, .getfield 2848), (3, .ifCond .le 90), (1, .return_)]),
  (90, [(1, .aload 0), (2, .iconst 17), (3, .invokeinterface 1422 9), (3, .ifCond .eq 115), (1, .aload 0), (1, .iload 1), (1, .iconst 1), (1, .iadd), (3, .invokeinterface 1443 9), (1, .aload 0), (1, .iconst 3), (1, .iconst 0), (3, .invokeinterface 1438 13), (3, .goto 181)]),
  (115, [(1, .aload 0), (2, .iconst 40), (3, .invokeinterface 1421 9), (3, .ifCond .eq 140), (1, .aload 0), (1, .iload 1), (1, .iconst 1), (1, .iadd), (3, .invokeinterface 1439 9), (1, .aload 0), (2, .iconst 41), (3, .invokeinterface 1420 9), (3, .goto 181)]),
  (140, [(1, .aload 0), (1, .iload 2), (3, .ifCond .eq 149), (1, .iconst 1), (3, .goto 150)]),
  (149, [(1, .iconst 2)]),
  (150, [(1, .iload 2), (3, .ifCond .eq 167), (1, .aload 0), (3, .getfield 2842), (1, .aload 0), (3, .getfield 2844), (1, .laload), (1, .l2i), (3, .goto 168)]),
  (167, [(1, .iload 3)]),
  (168, [(3, .invokeinterface 1438 13), (1, .aload 0), (1, .dup), (3, .getfield 2844), (1, .iconst 1), (1, .iadd), (3, .putfield 2844)]),
  (181, [(1, .return_)])])
def ax_m_11_36 : ax_M := (⟨"ShakingCourtModel", "worthAt", "(I)I"⟩, prog_13_method_37_code, 5, (some .int), 1, [
  (0, [(1, .iconst 0), (1, .istore 2), (1, .iload 1), (1, .istore 3)]),
  (4, [(1, .aload 0), (3, .getfield 2862), (1, .iload 3), (1, .iaload), (3, .ifCond .eq 140), (1, .aload 0), (3, .getfield 2862), (1, .iload 3), (1, .iaload), (2, .istore 4), (2, .iload 4), (1, .iconst 1), (3, .if_icmp .eq 33), (2, .iload 4), (1, .iconst 2), (3, .if_icmp .ne 71)]),
  (33, [(1, .aload 0), (3, .getfield 2906), (1, .iload 2), (2, .iload 4), (1, .iconst 1), (3, .if_icmp .ne 53), (1, .aload 0), (3, .getfield 2866), (1, .iload 3), (1, .iaload), (3, .goto 64)]),
  (53, [(1, .aload 0), (3, .getfield 2902), (1, .aload 0), (3, .getfield 2866), (1, .iload 3), (1, .iaload), (1, .iaload)]),
  (64, [(1, .iastore), (3, .iinc 2 1), (3, .goto 134)]),
  (71, [(2, .iload 4), (1, .iconst 3), (3, .if_icmp .ne 104), (1, .aload 0), (3, .getfield 2906), (1, .iload 2), (1, .iconst 1), (1, .isub), (1, .aload 0), (3, .getfield 2906), (1, .iload 2), (1, .iconst 1), (1, .isub), (1, .iaload), (3, .ifCond .ne 99), (1, .iconst 1), (3, .goto 100)]),
  (99, [(1, .iconst 0)]),
  (100, [(1, .iastore), (3, .goto 134)]),
  (104, [(3, .iinc 2 (-1)), (1, .aload 0), (3, .getfield 2906), (1, .iload 2), (1, .iconst 1), (1, .isub), (2, .iload 4), (1, .aload 0), (3, .getfield 2906), (1, .iload 2), (1, .iconst 1), (1, .isub), (1, .iaload), (1, .aload 0), (3, .getfield 2906), (1, .iload 2), (1, .iaload), (3, .invokeinterface 1445 12), (1, .iastore)]),
  (134, [(3, .iinc 3 1), (3, .goto 4)]),
  (140, [(1, .aload 0), (3, .getfield 2906), (1, .iconst 0), (1, .iaload), (1, .ireturn)])])
def ax_m_11_37 : ax_M := (⟨"ShakingCourtModel", "both", "(III)I"⟩, prog_13_method_38_code, 3, (some .int), 0, [
  (0, [(1, .iload 0), (39, .tableswitch 88 4 9 #[40, 44, 48, 52, 63, 74])]),
  (40, [(1, .iload 1), (1, .iload 2), (1, .iadd), (1, .ireturn)]),
  (44, [(1, .iload 1), (1, .iload 2), (1, .isub), (1, .ireturn)]),
  (48, [(1, .iload 1), (1, .iload 2), (1, .imul), (1, .ireturn)]),
  (52, [(1, .iload 1), (1, .iload 2), (3, .if_icmp .ge 61), (1, .iconst 1), (3, .goto 62)]),
  (61, [(1, .iconst 0)]),
  (62, [(1, .ireturn)]),
  (63, [(1, .iload 1), (1, .iload 2), (3, .if_icmp .ne 72), (1, .iconst 1), (3, .goto 73)]),
  (72, [(1, .iconst 0)]),
  (73, [(1, .ireturn)]),
  (74, [(1, .iload 1), (3, .ifCond .eq 86), (1, .iload 2), (3, .ifCond .eq 86), (1, .iconst 1), (3, .goto 87)]),
  (86, [(1, .iconst 0)]),
  (87, [(1, .ireturn)]),
  (88, [(1, .iload 1), (3, .ifCond .ne 96), (1, .iload 2), (3, .ifCond .eq 100)]),
  (96, [(1, .iconst 1), (3, .goto 101)]),
  (100, [(1, .iconst 0)]),
  (101, [(1, .ireturn)])])
def ax_m_11_38 : ax_M := (⟨"ShakingCourtModel", "copies", "(III)V"⟩, prog_13_method_39_code, 5, none, 1, [
  (0, [(1, .iconst 0), (2, .istore 4)]),
  (3, [(2, .iload 4), (1, .iload 3), (3, .if_icmp .ge 33), (1, .aload 0), (3, .getfield 2910), (1, .iload 2), (2, .iload 4), (1, .iadd), (1, .aload 0), (3, .getfield 2910), (1, .iload 1), (2, .iload 4), (1, .iadd), (1, .iaload), (1, .iastore), (3, .iinc 4 1), (3, .goto 3)]),
  (33, [(1, .return_)])])
def ax_m_11_39 : ax_M := (⟨"ShakingCourtModel", "starts", "(I)V"⟩, prog_13_method_40_code, 4, none, 1, [
  (0, [(1, .iconst 0), (1, .istore 2)]),
  (2, [(1, .iload 2), (2, .iconst 26), (3, .if_icmp .ge 23), (1, .aload 0), (3, .getfield 2910), (1, .iload 1), (1, .iload 2), (1, .iadd), (1, .iconst 0), (1, .iastore), (3, .iinc 2 1), (3, .goto 2)]),
  (23, [(1, .iconst 0), (1, .istore 2)]),
  (25, [(1, .iload 2), (1, .aload 0), (3, .invokeinterface 1451 5), (3, .if_icmp .ge 75), (1, .aload 0), (1, .iload 2), (1, .iconst 1), (3, .invokeinterface 1452 13), (1, .istore 3), (1, .aload 0), (3, .getfield 2910), (1, .iload 1), (2, .iconst 14), (1, .iadd), (1, .iload 2), (1, .iadd), (1, .iload 3), (1, .aload 0), (3, .invokeinterface 1450 5), (3, .if_icmp .ge 62), (1, .iload 3), (3, .goto 68)]),
  (62, [(1, .aload 0), (3, .invokeinterface 1450 5), (1, .iconst 1), (1, .isub)]),
  (68, [(1, .iastore), (3, .iinc 2 1), (3, .goto 25)]),
  (75, [(1, .return_)])])
def ax_m_11_40 : ax_M := (⟨"ShakingCourtModel", "begins", "()V"⟩, prog_13_method_41_code, 2, none, 1, [
  (0, [(1, .aload 0), (1, .iconst 0), (3, .invokeinterface 1447 9), (1, .aload 0), (3, .getfield 2910), (2, .iconst 26), (1, .iconst 0), (1, .iastore), (1, .aload 0), (3, .getfield 2898), (1, .iconst 0), (1, .iconst 0), (1, .iastore), (1, .aload 0), (1, .iconst 0), (3, .putfield 2912), (1, .iconst 0), (1, .istore 1)]),
  (27, [(1, .iload 1), (1, .iconst 4), (3, .if_icmp .ge 45), (1, .aload 0), (3, .getfield 2918), (1, .iload 1), (1, .iconst 0), (1, .bastore), (3, .iinc 1 1), (3, .goto 27)]),
  (45, [(1, .return_)])])
def ax_m_11_41 : ax_M := (⟨"ShakingCourtModel", "keeps", "()V"⟩, prog_13_method_42_code, 2, none, 1, [
  (0, [(1, .aload 0), (3, .getfield 2912), (2, .iconst 16), (3, .if_icmp .ne 53), (1, .iconst 1), (1, .istore 1)]),
  (11, [(1, .iload 1), (2, .iconst 16), (3, .if_icmp .ge 43), (1, .aload 0), (2, .iconst 52), (1, .iconst 5), (1, .iload 1), (1, .iadd), (1, .imul), (2, .iconst 52), (1, .iconst 5), (1, .iload 1), (1, .iadd), (1, .iconst 1), (1, .isub), (1, .imul), (2, .iconst 26), (3, .invokeinterface 1446 17), (3, .iinc 1 1), (3, .goto 11)]),
  (43, [(1, .aload 0), (1, .dup), (3, .getfield 2912), (1, .iconst 1), (1, .isub), (3, .putfield 2912)]),
  (53, [(1, .aload 0), (1, .iconst 0), (2, .iconst 52), (1, .iconst 5), (1, .aload 0), (3, .getfield 2912), (1, .iadd), (1, .imul), (2, .iconst 26), (3, .invokeinterface 1446 17), (1, .aload 0), (1, .dup), (3, .getfield 2912), (1, .iconst 1), (1, .iadd), (3, .putfield 2912), (1, .return_)])])
def ax_m_11_42 : ax_M := (⟨"ShakingCourtModel", "cells", "()I"⟩, prog_13_method_43_code, 1, (some .int), 1, [
  (0, [(1, .aload 0), (3, .getfield 2858), (1, .iconst 0), (1, .iaload), (1, .ireturn)])])
def ax_m_11_43 : ax_M := (⟨"ShakingCourtModel", "courtiers", "()I"⟩, prog_13_method_44_code, 1, (some .int), 1, [
  (0, [(1, .aload 0), (3, .getfield 2858), (1, .iconst 1), (1, .iaload), (1, .ireturn)])])
def ax_m_11_44 : ax_M := (⟨"ShakingCourtModel", "courtierOf", "(II)I"⟩, prog_13_method_45_code, 3, (some .int), 1, [
  (0, [(1, .aload 0), (3, .getfield 2858), (1, .iconst 5), (1, .iconst 3), (1, .iload 1), (1, .imul), (1, .iadd), (1, .iload 2), (1, .iadd), (1, .iaload), (1, .ireturn)])])
def ax_m_11_45 : ax_M := (⟨"ShakingCourtModel", "isCell", "(I)Z"⟩, prog_13_method_46_code, 2, (some .boolean), 1, [
  (0, [(1, .iload 1), (3, .ifCond .lt 16), (1, .iload 1), (1, .aload 0), (3, .invokeinterface 1450 5), (3, .if_icmp .ge 16), (1, .iconst 1), (3, .goto 17)]),
  (16, [(1, .iconst 0)]),
  (17, [(1, .ireturn)])])
def ax_m_11_46 : ax_M := (⟨"ShakingCourtModel", "isCourtier", "(I)Z"⟩, prog_13_method_47_code, 2, (some .boolean), 1, [
  (0, [(1, .iload 1), (3, .ifCond .lt 16), (1, .iload 1), (1, .aload 0), (3, .invokeinterface 1451 5), (3, .if_icmp .ge 16), (1, .iconst 1), (3, .goto 17)]),
  (16, [(1, .iconst 0)]),
  (17, [(1, .ireturn)])])
def ax_m_11_47 : ax_M := (⟨"ShakingCourtModel", "isCracked", "(II)Z"⟩, prog_13_method_48_code, 3, (some .boolean), 1, [
  (0, [(1, .aload 0), (3, .getfield 2910), (1, .iload 1), (1, .iconst 1), (1, .iadd), (1, .iaload), (1, .iload 2), (1, .ishr), (1, .iconst 1), (1, .iand), (1, .iconst 1), (3, .if_icmp .ne 20), (1, .iconst 1), (3, .goto 21)]),
  (20, [(1, .iconst 0)]),
  (21, [(1, .ireturn)])])
def ax_m_11_48 : ax_M := (⟨"ShakingCourtModel", "isWhole", "(II)Z"⟩, prog_13_method_49_code, 3, (some .boolean), 1, [
  (0, [(1, .aload 0), (1, .iload 2), (3, .invokeinterface 1453 9), (3, .ifCond .eq 21), (1, .aload 0), (1, .iload 1), (1, .iload 2), (3, .invokeinterface 1455 13), (3, .ifCond .ne 21), (1, .iconst 1), (3, .goto 22)]),
  (21, [(1, .iconst 0)]),
  (22, [(1, .ireturn)])])
def ax_m_11_49 : ax_M := (⟨"ShakingCourtModel", "heatOf", "(I)I"⟩, prog_13_method_50_code, 2, (some .int), 1, [
  (0, [(1, .aload 0), (3, .getfield 2858), (2, .iconst 23), (1, .aload 0), (3, .getfield 2910), (1, .iload 1), (1, .iconst 0), (1, .iadd), (1, .iaload), (1, .aload 0), (3, .getfield 2858), (1, .iconst 2), (1, .iaload), (1, .irem), (1, .iadd), (1, .iaload), (1, .ireturn)])])
def ax_m_11_50 : ax_M := (⟨"ShakingCourtModel", "kept", "(I)I"⟩, prog_13_method_51_code, 1, (some .int), 0, [
  (0, [(1, .iload 0), (3, .ifCond .ge 8), (1, .iconst 0), (3, .goto 20)]),
  (8, [(1, .iload 0), (2, .iconst 99), (3, .if_icmp .le 19), (2, .iconst 99), (3, .goto 20)]),
  (19, [(1, .iload 0)]),
  (20, [(1, .ireturn)])])
def ax_m_11_51 : ax_M := (⟨"ShakingCourtModel", "touches", "(III)V"⟩, prog_13_method_52_code, 4, none, 1, [
  (0, [(1, .aload 0), (3, .getfield 2910), (1, .iload 1), (1, .iconst 2), (1, .iadd), (1, .iload 2), (1, .iadd), (1, .aload 0), (3, .getfield 2910), (1, .iload 1), (1, .iconst 2), (1, .iadd), (1, .iload 2), (1, .iadd), (1, .iaload), (1, .iload 3), (1, .iadd), (3, .invokeinterface 1458 4), (1, .iastore), (1, .return_)])])
def ax_m_11_52 : ax_M := (⟨"ShakingCourtModel", "breathes", "(II)V"⟩, prog_13_method_53_code, 3, none, 1, [
  (0, [(1, .aload 0), (3, .getfield 2910), (1, .iload 1), (1, .iconst 2), (1, .iadd), (1, .iload 2), (1, .iadd), (1, .aload 0), (3, .getfield 2910), (1, .iload 1), (1, .iconst 2), (1, .iadd), (1, .iload 2), (1, .iadd), (1, .iaload), (1, .iconst 3), (1, .isub), (3, .invokeinterface 1458 4), (1, .iastore), (1, .return_)])])
def ax_m_11_53 : ax_M := (⟨"ShakingCourtModel", "forks", "(II)V"⟩, prog_13_method_54_code, 3, none, 1, [
  (0, [(1, .aload 0), (3, .getfield 2910), (1, .iload 1), (1, .iconst 1), (1, .iadd), (1, .dup2), (1, .iaload), (1, .iconst 1), (1, .iload 2), (1, .ishl), (1, .ior), (1, .iastore), (1, .aload 0), (3, .getfield 2910), (1, .iload 1), (1, .iconst 2), (1, .iadd), (1, .iload 2), (1, .iadd), (1, .iconst 0), (1, .iastore), (1, .return_)])])
def ax_m_11_54 : ax_M := (⟨"ShakingCourtModel", "turns", "(I)Z"⟩, prog_13_method_55_code, 8, (some .boolean), 1, [
  (0, [(1, .aload 0), (3, .getfield 2910), (1, .iload 1), (1, .iconst 1), (1, .iadd), (1, .iaload), (1, .istore 2), (1, .iconst 0), (1, .istore 3), (1, .iconst 0), (2, .istore 4), (1, .iconst 0), (2, .istore 5)]),
  (17, [(2, .iload 5), (1, .aload 0), (3, .invokeinterface 1450 5), (3, .if_icmp .ge 138), (1, .aload 0), (3, .invokeinterface 1450 5), (1, .iconst 1), (1, .isub), (2, .iload 5), (1, .isub), (2, .istore 6), (1, .iload 3), (1, .iload 2), (2, .iload 6), (1, .ishr), (1, .iconst 1), (1, .iand), (2, .iload 5), (1, .ishl), (1, .ior), (1, .istore 3), (2, .iload 5), (2, .iload 6), (3, .if_icmp .ge 132), (1, .aload 0), (3, .getfield 2910), (1, .iload 1), (1, .iconst 2), (1, .iadd), (2, .iload 5), (1, .iadd), (1, .iaload), (2, .istore 7), (2, .iload 4), (3, .ifCond .ne 90), (2, .iload 7), (1, .aload 0), (3, .getfield 2910), (1, .iload 1), (1, .iconst 2), (1, .iadd), (2, .iload 6), (1, .iadd), (1, .iaload), (3, .if_icmp .eq 94)]),
  (90, [(1, .iconst 1), (3, .goto 95)]),
  (94, [(1, .iconst 0)]),
  (95, [(2, .istore 4), (1, .aload 0), (3, .getfield 2910), (1, .iload 1), (1, .iconst 2), (1, .iadd), (2, .iload 5), (1, .iadd), (1, .aload 0), (3, .getfield 2910), (1, .iload 1), (1, .iconst 2), (1, .iadd), (2, .iload 6), (1, .iadd), (1, .iaload), (1, .iastore), (1, .aload 0), (3, .getfield 2910), (1, .iload 1), (1, .iconst 2), (1, .iadd), (2, .iload 6), (1, .iadd), (2, .iload 7), (1, .iastore)]),
  (132, [(3, .iinc 5 1), (3, .goto 17)]),
  (138, [(1, .aload 0), (3, .getfield 2910), (1, .iload 1), (1, .iconst 1), (1, .iadd), (1, .iload 3), (1, .iastore), (2, .iload 4), (3, .ifCond .ne 157), (1, .iload 2), (1, .iload 3), (3, .if_icmp .eq 161)]),
  (157, [(1, .iconst 1), (3, .goto 162)]),
  (161, [(1, .iconst 0)]),
  (162, [(1, .ireturn)])])
def ax_m_11_55 : ax_M := (⟨"ShakingCourtModel", "changes", "(III)V"⟩, prog_13_method_56_code, 5, none, 1, [
  (0, [(1, .aload 0), (3, .getfield 2910), (1, .iload 1), (2, .iconst 14), (1, .iadd), (1, .iload 2), (1, .iadd), (1, .iaload), (2, .istore 4), (1, .aload 0), (3, .getfield 2910), (1, .iload 1), (2, .iconst 14), (1, .iadd), (1, .iload 2), (1, .iadd), (1, .aload 0), (3, .getfield 2910), (1, .iload 1), (2, .iconst 14), (1, .iadd), (1, .iload 3), (1, .iadd), (1, .iaload), (1, .iastore), (1, .aload 0), (3, .getfield 2910), (1, .iload 1), (2, .iconst 14), (1, .iadd), (1, .iload 3), (1, .iadd), (2, .iload 4), (1, .iastore), (1, .return_)])])
def ax_m_11_56 : ax_M := (⟨"ShakingCourtModel", "readOf", "(IIII)I"⟩, prog_13_method_57_code, 5, (some .int), 1, [
  (0, [(1, .aload 0), (3, .getfield 2902), (1, .iconst 0), (1, .aload 0), (3, .getfield 2910), (1, .iload 1), (1, .iconst 2), (1, .iadd), (1, .iload 3), (1, .iadd), (1, .iaload), (1, .iastore), (1, .aload 0), (3, .getfield 2902), (1, .iconst 1), (2, .iload 4), (1, .iastore), (1, .aload 0), (3, .getfield 2902), (1, .iconst 2), (1, .aload 0), (3, .getfield 2910), (1, .iload 1), (1, .iconst 0), (1, .iadd), (1, .iaload), (1, .iastore), (1, .aload 0), (3, .getfield 2902), (1, .iconst 3), (1, .aload 0), (1, .iload 2), (1, .iconst 2), (3, .invokeinterface 1452 13), (1, .iastore), (1, .aload 0), (3, .getfield 2858), (1, .iconst 4), (1, .iaload), (3, .ifCond .ge 68), (1, .aload 0), (3, .getfield 2902), (1, .iconst 0), (1, .iaload), (3, .goto 78)]),
  (68, [(1, .aload 0), (1, .aload 0), (3, .getfield 2858), (1, .iconst 4), (1, .iaload), (3, .invokeinterface 1444 9)]),
  (78, [(3, .invokeinterface 1458 4), (1, .ireturn)])])
def ax_m_11_57 : ax_M := (⟨"ShakingCourtModel", "doesBy", "(III)I"⟩, prog_13_method_58_code, 8, (some .int), 1, [
  (0, [(1, .aload 0), (1, .iload 2), (1, .iconst 0), (3, .invokeinterface 1452 13), (2, .istore 4), (1, .aload 0), (3, .getfield 2910), (1, .iload 1), (2, .iconst 14), (1, .iadd), (1, .iload 2), (1, .iadd), (1, .iaload), (2, .istore 5), (1, .aload 0), (3, .getfield 2910), (1, .iload 1), (1, .iconst 2), (1, .iadd), (2, .iload 5), (1, .iadd), (1, .iaload), (2, .istore 6), (2, .iload 4), (1, .iconst 2), (3, .if_icmp .ne 51), (2, .iload 6), (2, .iconst 20), (3, .if_icmp .le 51), (1, .iconst 0), (3, .goto 60)]),
  (51, [(1, .aload 0), (1, .iload 1), (1, .iload 2), (2, .iload 5), (1, .iload 3), (3, .invokeinterface 1464 21)]),
  (60, [(2, .istore 7), (2, .iload 7), (2, .iload 4), (1, .iconst 1), (3, .if_icmp .ne 89), (1, .aload 0), (1, .iload 1), (1, .iload 2), (2, .iload 5), (1, .iconst 1), (1, .iadd), (1, .aload 0), (3, .invokeinterface 1450 5), (1, .irem), (1, .iload 3), (3, .invokeinterface 1464 21), (3, .goto 90)]),
  (89, [(1, .iconst 0)]),
  (90, [(1, .iadd), (2, .istore 7), (2, .iload 7), (2, .iload 4), (1, .iconst 3), (3, .if_icmp .ne 110), (2, .iload 6), (3, .ifCond .le 110), (1, .iconst 1), (3, .goto 111)]),
  (110, [(1, .iconst 0)]),
  (111, [(1, .iadd), (1, .ireturn)])])
def ax_m_11_58 : ax_M := (⟨"ShakingCourtModel", "passes", "(II)I"⟩, prog_13_method_59_code, 7, (some .int), 1, [
  (0, [(1, .aload 0), (3, .invokeinterface 1450 5), (1, .istore 3), (1, .iconst 0), (2, .istore 4)]),
  (8, [(2, .iload 4), (1, .iload 3), (3, .if_icmp .ge 143), (1, .aload 0), (3, .getfield 2910), (1, .iload 1), (1, .iconst 2), (1, .iadd), (2, .iload 4), (1, .iload 3), (1, .iadd), (1, .iconst 1), (1, .isub), (1, .iload 3), (1, .irem), (1, .iadd), (1, .iaload), (1, .aload 0), (3, .getfield 2910), (1, .iload 1), (1, .iconst 2), (1, .iadd), (2, .iload 4), (1, .iconst 1), (1, .iadd), (1, .iload 3), (1, .irem), (1, .iadd), (1, .iaload), (1, .iadd), (1, .iconst 2), (1, .idiv), (2, .istore 5), (1, .aload 0), (3, .getfield 2902), (1, .iconst 0), (2, .iload 5), (1, .iastore), (1, .aload 0), (3, .getfield 2902), (1, .iconst 1), (1, .iload 2), (1, .iastore), (1, .aload 0), (3, .getfield 2902), (1, .iconst 2), (1, .aload 0), (3, .getfield 2910), (1, .iload 1), (1, .iconst 0), (1, .iadd), (1, .iaload), (1, .iastore), (1, .aload 0), (3, .getfield 2858), (1, .iconst 3), (1, .iaload), (3, .ifCond .ge 93), (1, .iconst 1), (3, .goto 106)]),
  (93, [(1, .aload 0), (1, .aload 0), (3, .getfield 2858), (1, .iconst 3), (1, .iaload), (3, .invokeinterface 1444 9), (3, .invokeinterface 1458 4)]),
  (106, [(2, .istore 6), (1, .aload 0), (3, .getfield 2922), (2, .iload 4), (1, .aload 0), (1, .iload 1), (2, .iload 4), (3, .invokeinterface 1455 13), (3, .ifCond .eq 128), (1, .iconst 0), (3, .goto 136)]),
  (128, [(2, .iload 5), (2, .iload 6), (1, .isub), (3, .invokeinterface 1458 4)]),
  (136, [(1, .iastore), (3, .iinc 4 1), (3, .goto 8)]),
  (143, [(1, .iconst 0), (2, .istore 4)]),
  (146, [(2, .iload 4), (1, .iload 3), (3, .if_icmp .ge 176), (1, .aload 0), (3, .getfield 2910), (1, .iload 1), (1, .iconst 2), (1, .iadd), (2, .iload 4), (1, .iadd), (1, .aload 0), (3, .getfield 2922), (2, .iload 4), (1, .iaload), (1, .iastore), (3, .iinc 4 1), (3, .goto 146)]),
  (176, [(1, .iconst 0), (2, .istore 4), (1, .iconst 0), (2, .istore 5)]),
  (182, [(2, .iload 5), (1, .aload 0), (3, .invokeinterface 1451 5), (3, .if_icmp .ge 231), (1, .aload 0), (1, .iload 1), (2, .iload 5), (1, .iload 2), (3, .invokeinterface 1465 17), (2, .istore 6), (1, .aload 0), (3, .getfield 2910), (1, .iload 1), (2, .iconst 20), (1, .iadd), (2, .iload 5), (1, .iadd), (1, .dup2), (1, .iaload), (2, .iload 6), (1, .iadd), (1, .iastore), (2, .iload 4), (2, .iload 6), (1, .iadd), (2, .istore 4), (3, .iinc 5 1), (3, .goto 182)]),
  (231, [(1, .aload 0), (3, .getfield 2910), (1, .iload 1), (1, .iconst 0), (1, .iadd), (1, .dup2), (1, .iaload), (1, .iconst 1), (1, .iadd), (1, .iastore), (2, .iload 4), (1, .ireturn)])])
def ax_m_11_59 : ax_M := (⟨"ShakingCourtModel", "passes", "(I)I"⟩, prog_13_method_60_code, 2, (some .int), 1, [
  (0, [(1, .aload 0), (1, .iload 1), (1, .aload 0), (1, .iload 1), (3, .invokeinterface 1457 9), (3, .invokeinterface 1466 13), (1, .ireturn)])])
def ax_m_11_60 : ax_M := (⟨"ShakingCourtModel", "shaking", "(I)I"⟩, prog_13_method_61_code, 4, (some .int), 1, [
  (0, [(1, .iconst 0), (1, .istore 2), (1, .iconst 0), (1, .istore 3)]),
  (4, [(1, .iload 3), (1, .aload 0), (3, .invokeinterface 1450 5), (3, .if_icmp .ge 41), (1, .iload 2), (1, .aload 0), (3, .getfield 2910), (1, .iload 1), (1, .iconst 2), (1, .iadd), (1, .iload 3), (1, .iadd), (1, .iaload), (3, .ifCond .le 32), (1, .iconst 1), (1, .iload 3), (1, .ishl), (3, .goto 33)]),
  (32, [(1, .iconst 0)]),
  (33, [(1, .ior), (1, .istore 2), (3, .iinc 3 1), (3, .goto 4)]),
  (41, [(1, .iload 2), (1, .ireturn)])])
def ax_m_11_61 : ax_M := (⟨"ShakingCourtModel", "sumOf", "(II)I"⟩, prog_13_method_62_code, 5, (some .int), 1, [
  (0, [(1, .iconst 0), (1, .istore 3), (1, .iconst 0), (2, .istore 4)]),
  (5, [(2, .iload 4), (1, .iload 2), (3, .if_icmp .ge 29), (1, .iload 3), (1, .aload 0), (3, .getfield 2910), (1, .iload 1), (2, .iload 4), (1, .iadd), (1, .iaload), (1, .iadd), (1, .istore 3), (3, .iinc 4 1), (3, .goto 5)]),
  (29, [(1, .iload 3), (1, .ireturn)])])
def ax_m_11_62 : ax_M := (⟨"ShakingCourtModel", "doneOf", "(I)I"⟩, prog_13_method_63_code, 2, (some .int), 1, [
  (0, [(1, .aload 0), (1, .iload 1), (2, .iconst 20), (1, .iadd), (1, .aload 0), (3, .invokeinterface 1451 5), (3, .invokeinterface 1469 13), (1, .ireturn)])])
def ax_m_11_63 : ax_M := (⟨"ShakingCourtModel", "bits", "(I)I"⟩, prog_13_method_64_code, 3, (some .int), 0, [
  (0, [(1, .iconst 0), (1, .istore 1), (1, .iconst 0), (1, .istore 2)]),
  (4, [(1, .iload 2), (2, .iconst 30), (3, .if_icmp .ge 24), (1, .iload 1), (1, .iload 0), (1, .iload 2), (1, .ishr), (1, .iconst 1), (1, .iand), (1, .iadd), (1, .istore 1), (3, .iinc 2 1), (3, .goto 4)]),
  (24, [(1, .iload 1), (1, .ireturn)])])
def ax_m_11_64 : ax_M := (⟨"ShakingCourtModel", "shake", "(I)I"⟩, prog_13_method_65_code, 2, (some .int), 1, [
  (0, [(1, .aload 0), (1, .iconst 0), (3, .putfield 2816), (1, .aload 0), (1, .iconst 0), (1, .iload 1), (3, .invokeinterface 1456 13), (3, .ifCond .eq 25), (1, .aload 0), (3, .getfield 2910), (1, .iconst 2), (1, .iload 1), (1, .iadd), (1, .iaload), (3, .goto 26)]),
  (25, [(1, .iconst (-1))]),
  (26, [(1, .ireturn)])])
def ax_m_11_65 : ax_M := (⟨"ShakingCourtModel", "courtier", "(II)I"⟩, prog_13_method_66_code, 3, (some .int), 1, [
  (0, [(1, .aload 0), (1, .iconst 0), (3, .putfield 2816), (1, .aload 0), (1, .iload 1), (3, .invokeinterface 1454 9), (3, .ifCond .eq 22), (1, .iload 2), (1, .iconst 0), (1, .iconst 3), (3, .invokeinterface 1424 12), (3, .ifCond .ne 25)]),
  (22, [(2, .iconst (-2)), (1, .ireturn)]),
  (25, [(1, .iload 2), (3, .ifCond .ne 38), (1, .aload 0), (1, .iload 1), (1, .iconst 0), (3, .invokeinterface 1452 13), (3, .goto 78)]),
  (38, [(1, .iload 2), (1, .iconst 1), (3, .if_icmp .ne 55), (1, .aload 0), (3, .getfield 2910), (2, .iconst 14), (1, .iload 1), (1, .iadd), (1, .iaload), (3, .goto 78)]),
  (55, [(1, .iload 2), (1, .iconst 2), (3, .if_icmp .ne 69), (1, .aload 0), (1, .iload 1), (1, .iconst 2), (3, .invokeinterface 1452 13), (3, .goto 78)]),
  (69, [(1, .aload 0), (3, .getfield 2910), (2, .iconst 20), (1, .iload 1), (1, .iadd), (1, .iaload)]),
  (78, [(1, .ireturn)])])
def ax_m_11_66 : ax_M := (⟨"ShakingCourtModel", "touch", "(II)I"⟩, prog_13_method_67_code, 3, (some .int), 1, [
  (0, [(1, .aload 0), (1, .iconst 0), (3, .putfield 2816), (1, .aload 0), (1, .iconst 0), (1, .iload 1), (3, .invokeinterface 1456 13), (3, .ifCond .eq 24), (1, .iload 2), (1, .iconst 1), (2, .iconst 20), (3, .invokeinterface 1424 12), (3, .ifCond .ne 26)]),
  (24, [(1, .iconst (-1)), (1, .ireturn)]),
  (26, [(1, .aload 0), (3, .invokeinterface 1449 5), (1, .aload 0), (1, .iconst 0), (1, .iload 1), (1, .iload 2), (3, .invokeinterface 1459 17), (1, .aload 0), (3, .getfield 2910), (1, .iconst 2), (1, .iload 1), (1, .iadd), (1, .iaload), (1, .ireturn)])])
def ax_m_11_67 : ax_M := (⟨"ShakingCourtModel", "breathe", "(I)I"⟩, prog_13_method_68_code, 2, (some .int), 1, [
  (0, [(1, .aload 0), (1, .iconst 0), (3, .putfield 2816), (1, .aload 0), (1, .iload 1), (3, .invokeinterface 1453 9), (3, .ifCond .ne 15), (1, .iconst (-1)), (1, .ireturn)]),
  (15, [(1, .aload 0), (3, .invokeinterface 1449 5), (1, .aload 0), (1, .iconst 0), (1, .iload 1), (3, .invokeinterface 1460 13), (1, .aload 0), (3, .getfield 2910), (1, .iconst 2), (1, .iload 1), (1, .iadd), (1, .iaload), (1, .ireturn)])])
def ax_m_11_68 : ax_M := (⟨"ShakingCourtModel", "fork", "(I)Z"⟩, prog_13_method_69_code, 2, (some .boolean), 1, [
  (0, [(1, .aload 0), (1, .iconst 0), (3, .putfield 2816), (1, .aload 0), (1, .iconst 0), (1, .iload 1), (3, .invokeinterface 1456 13), (3, .ifCond .ne 16), (1, .iconst 0), (1, .ireturn)]),
  (16, [(1, .aload 0), (3, .invokeinterface 1449 5), (1, .aload 0), (1, .iconst 0), (1, .iload 1), (3, .invokeinterface 1461 13), (1, .iconst 1), (1, .ireturn)])])
def ax_m_11_69 : ax_M := (⟨"ShakingCourtModel", "turn", "()Z"⟩, prog_13_method_70_code, 1, (some .boolean), 1, [
  (0, [(1, .aload 0), (1, .iconst 0), (3, .putfield 2816), (1, .aload 0), (3, .invokeinterface 1449 5), (1, .aload 0), (1, .iconst 0), (3, .invokeinterface 1462 9), (1, .ireturn)])])
def ax_m_11_70 : ax_M := (⟨"ShakingCourtModel", "change", "(II)Z"⟩, prog_13_method_71_code, 3, (some .boolean), 1, [
  (0, [(1, .aload 0), (1, .iconst 0), (3, .putfield 2816), (1, .aload 0), (1, .iload 1), (3, .invokeinterface 1454 9), (3, .ifCond .eq 26), (1, .aload 0), (1, .iload 2), (3, .invokeinterface 1454 9), (3, .ifCond .eq 26), (1, .iload 1), (1, .iload 2), (3, .if_icmp .ne 28)]),
  (26, [(1, .iconst 0), (1, .ireturn)]),
  (28, [(1, .aload 0), (3, .invokeinterface 1449 5), (1, .aload 0), (1, .iconst 0), (1, .iload 1), (1, .iload 2), (3, .invokeinterface 1463 17), (1, .iconst 1), (1, .ireturn)])])
def ax_m_11_71 : ax_M := (⟨"ShakingCourtModel", "beat", "()I"⟩, prog_13_method_72_code, 1, (some .int), 1, [
  (0, [(1, .aload 0), (1, .iconst 0), (3, .putfield 2816), (1, .aload 0), (3, .invokeinterface 1449 5), (1, .aload 0), (1, .iconst 0), (3, .invokeinterface 1467 9), (1, .ireturn)])])
def ax_m_11_72 : ax_M := (⟨"ShakingCourtModel", "undo", "()Z"⟩, prog_13_method_73_code, 1, (some .boolean), 1, [
  (0, [(1, .aload 0), (1, .iconst 0), (3, .putfield 2816), (1, .aload 0), (3, .getfield 2912), (3, .ifCond .ne 14), (1, .iconst 0), (1, .ireturn)]),
  (14, [(1, .aload 0), (1, .dup), (3, .getfield 2912), (1, .iconst 1), (1, .isub), (3, .putfield 2912), (1, .aload 0), (2, .iconst 52), (1, .iconst 5), (1, .aload 0), (3, .getfield 2912), (1, .iadd), (1, .imul), (1, .iconst 0), (2, .iconst 26), (3, .invokeinterface 1446 17), (1, .iconst 1), (1, .ireturn)])])
def ax_m_11_73 : ax_M := (⟨"ShakingCourtModel", "doAllShake", "(I)Z"⟩, prog_13_method_74_code, 3, (some .boolean), 1, [
  (0, [(1, .iconst 1), (1, .aload 0), (3, .invokeinterface 1450 5), (1, .ishl), (1, .iconst 1), (1, .isub), (1, .aload 0), (3, .getfield 2910), (1, .iload 1), (1, .iconst 1), (1, .iadd), (1, .iaload), (1, .iconst (-1)), (1, .ixor), (1, .iand), (1, .istore 2), (1, .iload 2), (3, .ifCond .eq 40), (1, .iload 2), (1, .aload 0), (1, .iload 1), (3, .invokeinterface 1468 9), (1, .iconst (-1)), (1, .ixor), (1, .iand), (3, .ifCond .ne 40), (1, .iconst 1), (3, .goto 41)]),
  (40, [(1, .iconst 0)]),
  (41, [(1, .ireturn)])])
def ax_m_11_74 : ax_M := (⟨"ShakingCourtModel", "judged", "(I)I"⟩, prog_13_method_75_code, 9, (some .int), 1, [
  (0, [(1, .aload 0), (1, .iconst 0), (3, .putfield 2816), (1, .iload 1), (1, .iconst 0), (1, .iconst 2), (3, .invokeinterface 1424 12), (3, .ifCond .ne 17), (2, .iconst (-2)), (1, .ireturn)]),
  (17, [(1, .aload 0), (3, .iconst 1092), (3, .invokeinterface 1447 9), (1, .iconst (-1)), (1, .istore 2), (1, .iconst (-1)), (1, .istore 3), (1, .iconst 0), (2, .istore 4)]),
  (31, [(2, .iload 4), (1, .aload 0), (3, .getfield 2898), (1, .iconst 0), (1, .iaload), (3, .if_icmp .ge 290), (1, .aload 0), (3, .getfield 2898), (1, .iconst 1), (1, .iconst 3), (2, .iload 4), (1, .imul), (1, .iadd), (1, .iaload), (2, .istore 5), (1, .aload 0), (3, .getfield 2898), (1, .iconst 2), (1, .iconst 3), (2, .iload 4), (1, .imul), (1, .iadd), (1, .iaload), (2, .istore 6), (1, .aload 0), (3, .getfield 2898), (1, .iconst 3), (1, .iconst 3), (2, .iload 4), (1, .imul), (1, .iadd), (1, .iaload), (2, .istore 7), (2, .iload 5), (1, .iconst 1), (3, .if_icmp .ne 96), (1, .aload 0), (2, .iload 6), (3, .invokeinterface 1453 9), (3, .goto 124)]),
  (96, [(2, .iload 5), (3, .ifCond .eq 107), (2, .iload 5), (1, .iconst 2), (3, .if_icmp .ne 119)]),
  (107, [(1, .aload 0), (3, .iconst 1092), (2, .iload 6), (3, .invokeinterface 1456 13), (3, .ifCond .eq 123)]),
  (119, [(1, .iconst 1), (3, .goto 124)]),
  (123, [(1, .iconst 0)]),
  (124, [(2, .istore 8), (2, .iload 8), (3, .ifCond .ne 140), (1, .iload 2), (3, .ifCond .ge 140), (2, .iload 4), (3, .goto 141)]),
  (140, [(1, .iload 2)]),
  (141, [(1, .istore 2), (2, .iload 8), (3, .ifCond .eq 166), (2, .iload 5), (3, .ifCond .ne 166), (1, .aload 0), (3, .iconst 1092), (2, .iload 6), (2, .iload 7), (3, .invokeinterface 1459 17), (3, .goto 263)]),
  (166, [(2, .iload 8), (3, .ifCond .eq 189), (2, .iload 5), (1, .iconst 1), (3, .if_icmp .ne 189), (1, .aload 0), (3, .iconst 1092), (2, .iload 6), (3, .invokeinterface 1460 13), (3, .goto 263)]),
  (189, [(2, .iload 8), (3, .ifCond .eq 212), (2, .iload 5), (1, .iconst 2), (3, .if_icmp .ne 212), (1, .aload 0), (3, .iconst 1092), (2, .iload 6), (3, .invokeinterface 1461 13), (3, .goto 263)]),
  (212, [(2, .iload 5), (1, .iconst 3), (3, .if_icmp .ne 229), (1, .aload 0), (3, .iconst 1092), (3, .invokeinterface 1462 9), (1, .pop), (3, .goto 263)]),
  (229, [(2, .iload 5), (1, .iconst 4), (3, .if_icmp .ne 249), (1, .aload 0), (3, .iconst 1092), (2, .iload 6), (2, .iload 7), (3, .invokeinterface 1463 17), (3, .goto 263)]),
  (249, [(2, .iload 5), (1, .iconst 5), (3, .if_icmp .ne 263), (1, .aload 0), (3, .iconst 1092), (3, .invokeinterface 1467 9), (1, .pop)]),
  (263, [(1, .iload 3), (3, .ifCond .ge 282), (1, .aload 0), (3, .iconst 1092), (3, .invokeinterface 1481 9), (3, .ifCond .eq 282), (2, .iload 4), (3, .goto 283)]),
  (282, [(1, .iload 3)]),
  (283, [(1, .istore 3), (3, .iinc 4 1), (3, .goto 31)]),
  (290, [(1, .iload 1), (3, .ifCond .ne 298), (1, .iload 2), (3, .goto 314)]),
  (298, [(1, .iload 1), (1, .iconst 1), (3, .if_icmp .ne 307), (1, .iload 3), (3, .goto 314)]),
  (307, [(1, .aload 0), (3, .iconst 1092), (3, .invokeinterface 1470 9)]),
  (314, [(1, .ireturn)])])
def ax_m_11_75 : ax_M := (⟨"ShakingCourtModel", "triesNow", "()V"⟩, prog_13_method_76_code, 1, none, 1, [
  (0, [(1, .aload 0), (1, .iconst 0), (3, .iconst 1092), (2, .iconst 26), (3, .invokeinterface 1446 17), (1, .return_)])])
def ax_m_11_76 : ax_M := (⟨"ShakingCourtModel", "runs", "(I)V"⟩, prog_13_method_77_code, 3, none, 1, [
  (0, [(1, .iconst 0), (1, .istore 2)]),
  (2, [(1, .iload 2), (1, .iload 1), (3, .if_icmp .ge 21), (1, .aload 0), (3, .iconst 1092), (3, .invokeinterface 1467 9), (1, .pop), (3, .iinc 2 1), (3, .goto 2)]),
  (21, [(1, .return_)])])
def ax_m_11_77 : ax_M := (⟨"ShakingCourtModel", "later", "(II)I"⟩, prog_13_method_78_code, 3, (some .int), 1, [
  (0, [(1, .aload 0), (1, .iconst 0), (3, .putfield 2816), (1, .aload 0), (1, .iconst 0), (1, .iload 1), (3, .invokeinterface 1456 13), (3, .ifCond .eq 24), (1, .iload 2), (1, .iconst 0), (2, .iconst 60), (3, .invokeinterface 1424 12), (3, .ifCond .ne 26)]),
  (24, [(1, .iconst (-1)), (1, .ireturn)]),
  (26, [(1, .aload 0), (3, .invokeinterface 1483 5), (1, .aload 0), (1, .iload 2), (3, .invokeinterface 1484 9), (1, .aload 0), (3, .getfield 2910), (3, .iconst 1094), (1, .iload 1), (1, .iadd), (1, .iaload), (1, .ireturn)])])
def ax_m_11_78 : ax_M := (⟨"ShakingCourtModel", "still", "()I"⟩, prog_13_method_79_code, 2, (some .int), 1, [
  (0, [(1, .aload 0), (1, .iconst 0), (3, .putfield 2816), (1, .aload 0), (3, .invokeinterface 1483 5), (1, .iconst 0), (1, .istore 1)]),
  (11, [(1, .iload 1), (2, .iconst 60), (3, .if_icmp .gt 43), (1, .aload 0), (3, .iconst 1092), (3, .invokeinterface 1468 9), (3, .ifCond .ne 29), (1, .iload 1), (1, .ireturn)]),
  (29, [(1, .aload 0), (3, .iconst 1092), (3, .invokeinterface 1467 9), (1, .pop), (3, .iinc 1 1), (3, .goto 11)]),
  (43, [(1, .iconst (-1)), (1, .ireturn)])])
def ax_m_11_79 : ax_M := (⟨"ShakingCourtModel", "peak", "(I)I"⟩, prog_13_method_80_code, 6, (some .int), 1, [
  (0, [(1, .aload 0), (1, .iconst 0), (3, .putfield 2816), (1, .aload 0), (1, .iconst 0), (1, .iload 1), (3, .invokeinterface 1456 13), (3, .ifCond .ne 16), (1, .iconst (-1)), (1, .ireturn)]),
  (16, [(1, .aload 0), (3, .invokeinterface 1483 5), (1, .iconst 0), (1, .istore 2), (1, .iconst (-1)), (1, .istore 3), (1, .iconst 0), (2, .istore 4)]),
  (27, [(2, .iload 4), (2, .iconst 60), (3, .if_icmp .gt 86), (1, .aload 0), (3, .getfield 2910), (3, .iconst 1094), (1, .iload 1), (1, .iadd), (1, .iaload), (2, .istore 5), (2, .iload 5), (1, .iload 3), (3, .if_icmp .le 57), (2, .iload 4), (3, .goto 58)]),
  (57, [(1, .iload 2)]),
  (58, [(1, .istore 2), (2, .iload 5), (1, .iload 3), (3, .if_icmp .le 70), (2, .iload 5), (3, .goto 71)]),
  (70, [(1, .iload 3)]),
  (71, [(1, .istore 3), (1, .aload 0), (3, .iconst 1092), (3, .invokeinterface 1467 9), (1, .pop), (3, .iinc 4 1), (3, .goto 27)]),
  (86, [(1, .iload 2), (1, .ireturn)])])
def ax_m_11_80 : ax_M := (⟨"ShakingCourtModel", "total", "(II)I"⟩, prog_13_method_81_code, 3, (some .int), 1, [
  (0, [(1, .aload 0), (1, .iconst 0), (3, .putfield 2816), (1, .aload 0), (1, .iload 1), (3, .invokeinterface 1454 9), (3, .ifCond .eq 23), (1, .iload 2), (1, .iconst 1), (2, .iconst 60), (3, .invokeinterface 1424 12), (3, .ifCond .ne 25)]),
  (23, [(1, .iconst (-1)), (1, .ireturn)]),
  (25, [(1, .aload 0), (3, .invokeinterface 1483 5), (1, .aload 0), (1, .iload 2), (3, .invokeinterface 1484 9), (1, .aload 0), (3, .getfield 2910), (3, .iconst 1112), (1, .iload 1), (1, .iadd), (1, .iaload), (1, .aload 0), (3, .getfield 2910), (2, .iconst 20), (1, .iload 1), (1, .iadd), (1, .iaload), (1, .isub), (1, .ireturn)])])
def ax_m_11_81 : ax_M := (⟨"ShakingCourtModel", "shakesBy", "(IIII)I"⟩, prog_13_method_82_code, 5, (some .int), 1, [
  (0, [(1, .aload 0), (3, .invokeinterface 1483 5), (1, .aload 0), (3, .iconst 1092), (1, .iload 1), (1, .iload 2), (3, .invokeinterface 1459 17), (1, .aload 0), (2, .iload 4), (3, .invokeinterface 1484 9), (1, .aload 0), (3, .getfield 2910), (3, .iconst 1094), (1, .iload 3), (1, .iadd), (1, .iaload), (1, .ireturn)])])
def ax_m_11_82 : ax_M := (⟨"ShakingCourtModel", "nudge", "(IIII)I"⟩, prog_13_method_83_code, 7, (some .int), 1, [
  (0, [(1, .aload 0), (1, .iconst 0), (3, .putfield 2816), (1, .aload 0), (1, .iconst 0), (1, .iload 1), (3, .invokeinterface 1456 13), (3, .ifCond .eq 44), (1, .iload 2), (1, .iconst 0), (2, .iconst 12), (3, .invokeinterface 1424 12), (3, .ifCond .eq 44), (1, .iload 3), (1, .iconst 1), (2, .iconst 99), (3, .invokeinterface 1424 12), (3, .ifCond .eq 44), (2, .iload 4), (1, .iconst 0), (1, .iconst 1), (3, .invokeinterface 1424 12), (3, .ifCond .ne 46)]),
  (44, [(1, .iconst (-1)), (1, .ireturn)]),
  (46, [(1, .iconst 1), (2, .istore 5)]),
  (49, [(2, .iload 5), (2, .iconst 20), (3, .if_icmp .gt 117), (1, .iconst 0), (2, .istore 6)]),
  (59, [(2, .iload 6), (1, .aload 0), (3, .invokeinterface 1450 5), (3, .if_icmp .ge 111), (1, .aload 0), (1, .iconst 0), (2, .iload 6), (3, .invokeinterface 1456 13), (3, .ifCond .eq 105), (1, .aload 0), (2, .iload 6), (2, .iload 5), (1, .iload 1), (1, .iload 2), (3, .invokeinterface 1489 21), (1, .iload 3), (3, .if_icmp .lt 105), (2, .iload 4), (3, .ifCond .ne 102), (2, .iload 5), (3, .goto 104)]),
  (102, [(2, .iload 6)]),
  (104, [(1, .ireturn)]),
  (105, [(3, .iinc 6 1), (3, .goto 59)]),
  (111, [(3, .iinc 5 1), (3, .goto 49)]),
  (117, [(1, .iconst (-1)), (1, .ireturn)])])
def ax_m_11_83 : ax_M := (⟨"ShakingCourtModel", "guard", "(I)I"⟩, prog_13_method_84_code, 7, (some .int), 1, [
  (0, [(1, .aload 0), (1, .iconst 0), (3, .putfield 2816), (1, .iconst (-1)), (1, .istore 2), (1, .iconst 0), (1, .istore 3), (1, .iconst 0), (2, .istore 4)]),
  (12, [(2, .iload 4), (1, .aload 0), (3, .invokeinterface 1450 5), (3, .if_icmp .ge 117), (1, .aload 0), (1, .iload 1), (3, .invokeinterface 1454 9), (3, .ifCond .eq 117), (1, .aload 0), (1, .iconst 0), (2, .iload 4), (3, .invokeinterface 1456 13), (3, .ifCond .eq 111), (1, .aload 0), (3, .invokeinterface 1483 5), (1, .aload 0), (3, .iconst 1092), (2, .iload 4), (3, .invokeinterface 1461 13), (1, .aload 0), (2, .iconst 20), (3, .invokeinterface 1484 9), (1, .aload 0), (3, .getfield 2910), (3, .iconst 1112), (1, .iload 1), (1, .iadd), (1, .iaload), (2, .istore 5), (1, .iload 2), (3, .ifCond .lt 80), (2, .iload 5), (1, .iload 3), (3, .if_icmp .ge 84)]),
  (80, [(1, .iconst 1), (3, .goto 85)]),
  (84, [(1, .iconst 0)]),
  (85, [(2, .istore 6), (2, .iload 6), (3, .ifCond .eq 97), (2, .iload 4), (3, .goto 98)]),
  (97, [(1, .iload 2)]),
  (98, [(1, .istore 2), (2, .iload 6), (3, .ifCond .eq 109), (2, .iload 5), (3, .goto 110)]),
  (109, [(1, .iload 3)]),
  (110, [(1, .istore 3)]),
  (111, [(3, .iinc 4 1), (3, .goto 12)]),
  (117, [(1, .iload 2), (1, .ireturn)])])
def ax_m_11_84 : ax_M := (⟨"ShakingCourtModel", "swap", "()I"⟩, prog_13_method_85_code, 6, (some .int), 1, [
  (0, [(1, .aload 0), (1, .iconst 0), (3, .putfield 2816), (1, .aload 0), (3, .invokeinterface 1483 5), (1, .aload 0), (2, .iconst 20), (3, .invokeinterface 1484 9), (1, .aload 0), (3, .iconst 1092), (3, .invokeinterface 1470 9), (1, .istore 1), (1, .iconst (-1)), (1, .istore 2), (1, .iconst 0), (1, .istore 3)]),
  (27, [(1, .iload 3), (1, .aload 0), (3, .invokeinterface 1451 5), (3, .if_icmp .ge 121), (1, .iload 3), (1, .iconst 1), (1, .iadd), (2, .istore 4)]),
  (40, [(2, .iload 4), (1, .aload 0), (3, .invokeinterface 1451 5), (3, .if_icmp .ge 115), (1, .aload 0), (3, .invokeinterface 1483 5), (1, .aload 0), (3, .iconst 1092), (1, .iload 3), (2, .iload 4), (3, .invokeinterface 1463 17), (1, .aload 0), (2, .iconst 20), (3, .invokeinterface 1484 9), (1, .aload 0), (3, .iconst 1092), (3, .invokeinterface 1470 9), (2, .istore 5), (2, .iload 5), (1, .iload 1), (3, .if_icmp .le 94), (2, .iconst 8), (1, .iload 3), (1, .imul), (2, .iload 4), (1, .iadd), (3, .goto 95)]),
  (94, [(1, .iload 2)]),
  (95, [(1, .istore 2), (2, .iload 5), (1, .iload 1), (3, .if_icmp .le 107), (2, .iload 5), (3, .goto 108)]),
  (107, [(1, .iload 1)]),
  (108, [(1, .istore 1), (3, .iinc 4 1), (3, .goto 40)]),
  (115, [(3, .iinc 3 1), (3, .goto 27)]),
  (121, [(1, .iload 2), (1, .ireturn)])])
def ax_m_11_85 : ax_M := (⟨"ShakingCourtModel", "reach", "(II)I"⟩, prog_13_method_86_code, 4, (some .int), 1, [
  (0, [(1, .aload 0), (1, .iconst 0), (3, .putfield 2816), (1, .aload 0), (1, .iconst 0), (1, .iload 1), (3, .invokeinterface 1456 13), (3, .ifCond .eq 23), (1, .aload 0), (1, .iconst 0), (1, .iload 2), (3, .invokeinterface 1456 13), (3, .ifCond .ne 25)]),
  (23, [(1, .iconst (-1)), (1, .ireturn)]),
  (25, [(1, .aload 0), (3, .invokeinterface 1483 5), (1, .aload 0), (1, .iconst 0), (3, .iconst 1144), (2, .iconst 26), (3, .invokeinterface 1446 17), (1, .aload 0), (3, .iconst 1144), (1, .iload 2), (2, .iconst 20), (3, .invokeinterface 1459 17), (1, .iconst 0), (1, .istore 3)]),
  (51, [(1, .iload 3), (2, .iconst 20), (3, .if_icmp .gt 104), (1, .aload 0), (3, .getfield 2910), (3, .iconst 1094), (1, .iload 1), (1, .iadd), (1, .iaload), (1, .aload 0), (3, .getfield 2910), (3, .iconst 1146), (1, .iload 1), (1, .iadd), (1, .iaload), (3, .if_icmp .eq 82), (1, .iload 3), (1, .ireturn)]),
  (82, [(1, .aload 0), (3, .iconst 1092), (3, .invokeinterface 1467 9), (1, .pop), (1, .aload 0), (3, .iconst 1144), (3, .invokeinterface 1467 9), (1, .pop), (3, .iinc 3 1), (3, .goto 51)]),
  (104, [(1, .iconst (-1)), (1, .ireturn)])])
def ax_m_11_86 : ax_M := (⟨"ShakingCourtModel", "arc", "(II)I"⟩, prog_13_method_87_code, 5, (some .int), 1, [
  (0, [(1, .aload 0), (1, .iconst 0), (3, .putfield 2816), (1, .aload 0), (1, .iload 1), (3, .invokeinterface 1453 9), (3, .ifCond .eq 25), (1, .iload 2), (1, .iconst 1), (1, .aload 0), (3, .invokeinterface 1450 5), (3, .invokeinterface 1424 12), (3, .ifCond .ne 27)]),
  (25, [(1, .iconst (-1)), (1, .ireturn)]),
  (27, [(1, .iconst 0), (1, .istore 3), (1, .iconst 0), (2, .istore 4)]),
  (32, [(2, .iload 4), (1, .iload 2), (3, .if_icmp .ge 63), (1, .iload 3), (1, .aload 0), (3, .getfield 2910), (1, .iconst 2), (1, .iload 1), (2, .iload 4), (1, .iadd), (1, .aload 0), (3, .invokeinterface 1450 5), (1, .irem), (1, .iadd), (1, .iaload), (1, .iadd), (1, .istore 3), (3, .iinc 4 1), (3, .goto 32)]),
  (63, [(1, .iload 3), (1, .ireturn)])])
def ax_m_11_87 : ax_M := (⟨"ShakingCourtModel", "calmest", "(I)I"⟩, prog_13_method_88_code, 7, (some .int), 1, [
  (0, [(1, .aload 0), (1, .iconst 0), (3, .putfield 2816), (1, .iload 1), (1, .iconst 0), (2, .iconst 60), (3, .invokeinterface 1424 12), (3, .ifCond .ne 17), (1, .iconst (-1)), (1, .ireturn)]),
  (17, [(1, .aload 0), (3, .invokeinterface 1483 5), (1, .aload 0), (1, .iload 1), (3, .invokeinterface 1484 9), (1, .iconst (-1)), (1, .istore 2), (1, .iconst 0), (1, .istore 3), (1, .iconst 0), (2, .istore 4)]),
  (33, [(2, .iload 4), (1, .aload 0), (3, .invokeinterface 1450 5), (3, .if_icmp .ge 112), (1, .aload 0), (3, .getfield 2910), (3, .iconst 1094), (2, .iload 4), (1, .iadd), (1, .iaload), (2, .istore 5), (1, .aload 0), (1, .iconst 0), (2, .iload 4), (3, .invokeinterface 1456 13), (3, .ifCond .eq 79), (1, .iload 2), (3, .ifCond .lt 75), (2, .iload 5), (1, .iload 3), (3, .if_icmp .ge 79)]),
  (75, [(1, .iconst 1), (3, .goto 80)]),
  (79, [(1, .iconst 0)]),
  (80, [(2, .istore 6), (2, .iload 6), (3, .ifCond .eq 92), (2, .iload 4), (3, .goto 93)]),
  (92, [(1, .iload 2)]),
  (93, [(1, .istore 2), (2, .iload 6), (3, .ifCond .eq 104), (2, .iload 5), (3, .goto 105)]),
  (104, [(1, .iload 3)]),
  (105, [(1, .istore 3), (3, .iinc 4 1), (3, .goto 33)]),
  (112, [(1, .iload 2), (1, .ireturn)])])
def ax_m_11_88 : ax_M := (⟨"ShakingCourtModel", "lazy", "()I"⟩, prog_13_method_89_code, 3, (some .int), 1, [
  (0, [(1, .aload 0), (1, .iconst 0), (3, .putfield 2816), (1, .aload 0), (3, .invokeinterface 1483 5), (1, .aload 0), (3, .iconst 1092), (3, .invokeinterface 1467 9), (1, .pop), (1, .iconst 0), (1, .istore 1), (1, .iconst 0), (1, .istore 2)]),
  (21, [(1, .iload 2), (1, .aload 0), (3, .invokeinterface 1451 5), (3, .if_icmp .ge 67), (1, .iload 1), (1, .aload 0), (3, .getfield 2910), (3, .iconst 1112), (1, .iload 2), (1, .iadd), (1, .iaload), (1, .aload 0), (3, .getfield 2910), (2, .iconst 20), (1, .iload 2), (1, .iadd), (1, .iaload), (3, .if_icmp .ne 58), (1, .iconst 1), (1, .iload 2), (1, .ishl), (3, .goto 59)]),
  (58, [(1, .iconst 0)]),
  (59, [(1, .ior), (1, .istore 1), (3, .iinc 2 1), (3, .goto 21)]),
  (67, [(1, .iload 1), (1, .ireturn)])])
def ax_m_11_89 : ax_M := (⟨"ShakingCourtModel", "post", "(I)I"⟩, prog_13_method_90_code, 6, (some .int), 1, [
  (0, [(1, .aload 0), (1, .iconst 0), (3, .putfield 2816), (1, .iconst (-1)), (1, .istore 2), (1, .iconst (-1)), (1, .istore 3), (1, .iconst 0), (2, .istore 4)]),
  (12, [(2, .iload 4), (1, .aload 0), (3, .invokeinterface 1450 5), (3, .if_icmp .ge 95), (1, .aload 0), (1, .iload 1), (3, .invokeinterface 1454 9), (3, .ifCond .eq 95), (1, .aload 0), (3, .invokeinterface 1483 5), (1, .aload 0), (3, .getfield 2910), (3, .iconst 1106), (1, .iload 1), (1, .iadd), (2, .iload 4), (1, .iastore), (1, .aload 0), (2, .iconst 20), (3, .invokeinterface 1484 9), (1, .aload 0), (3, .getfield 2910), (3, .iconst 1112), (1, .iload 1), (1, .iadd), (1, .iaload), (2, .istore 5), (2, .iload 5), (1, .iload 3), (3, .if_icmp .le 74), (2, .iload 4), (3, .goto 75)]),
  (74, [(1, .iload 2)]),
  (75, [(1, .istore 2), (2, .iload 5), (1, .iload 3), (3, .if_icmp .le 87), (2, .iload 5), (3, .goto 88)]),
  (87, [(1, .iload 3)]),
  (88, [(1, .istore 3), (3, .iinc 4 1), (3, .goto 12)]),
  (95, [(1, .iload 2), (1, .ireturn)])])
def ax_m_11_90 : ax_M := (⟨"ShakingCourtModel", "hush", "()I"⟩, prog_13_method_91_code, 3, (some .int), 1, [
  (0, [(1, .aload 0), (1, .iconst 0), (3, .putfield 2816), (1, .iconst 0), (1, .istore 1), (1, .iconst 0), (1, .istore 2)]),
  (9, [(1, .iload 2), (1, .aload 0), (3, .invokeinterface 1450 5), (3, .if_icmp .ge 38), (1, .iload 1), (1, .aload 0), (3, .getfield 2910), (1, .iconst 2), (1, .iload 2), (1, .iadd), (1, .iaload), (1, .iconst 2), (1, .iadd), (1, .iconst 3), (1, .idiv), (1, .iadd), (1, .istore 1), (3, .iinc 2 1), (3, .goto 9)]),
  (38, [(1, .iload 1), (1, .ireturn)])])
def ax_m_11_91 : ax_M := (⟨"ShakingCourtModel", "rises", "(I)I"⟩, prog_13_method_92_code, 5, (some .int), 1, [
  (0, [(1, .aload 0), (1, .iconst 0), (3, .putfield 2816), (1, .aload 0), (1, .iconst 0), (1, .iload 1), (3, .invokeinterface 1456 13), (3, .ifCond .ne 16), (1, .iconst (-1)), (1, .ireturn)]),
  (16, [(1, .aload 0), (3, .invokeinterface 1483 5), (1, .iconst 0), (1, .istore 2), (1, .iconst 0), (1, .istore 3)]),
  (24, [(1, .iload 3), (2, .iconst 20), (3, .if_icmp .ge 79), (1, .aload 0), (3, .getfield 2910), (3, .iconst 1094), (1, .iload 1), (1, .iadd), (1, .iaload), (2, .istore 4), (1, .aload 0), (3, .iconst 1092), (3, .invokeinterface 1467 9), (1, .pop), (1, .iload 2), (1, .aload 0), (3, .getfield 2910), (3, .iconst 1094), (1, .iload 1), (1, .iadd), (1, .iaload), (2, .iload 4), (3, .if_icmp .le 70), (1, .iconst 1), (3, .goto 71)]),
  (70, [(1, .iconst 0)]),
  (71, [(1, .iadd), (1, .istore 2), (3, .iinc 3 1), (3, .goto 24)]),
  (79, [(1, .iload 2), (1, .ireturn)])])
def ax_m_11_92 : ax_M := (⟨"ShakingCourtModel", "feel", "(III)Z"⟩, prog_13_method_93_code, 5, (some .boolean), 1, [
  (0, [(1, .aload 0), (1, .iconst 0), (3, .putfield 2816), (1, .aload 0), (1, .iconst 0), (1, .iload 1), (3, .invokeinterface 1456 13), (3, .ifCond .eq 46), (1, .iload 2), (1, .iconst 0), (2, .iconst 12), (3, .invokeinterface 1424 12), (3, .ifCond .eq 46), (1, .iload 3), (1, .iconst 0), (2, .iconst 99), (3, .invokeinterface 1424 12), (3, .ifCond .eq 46), (1, .aload 0), (3, .getfield 2910), (2, .iconst 26), (1, .iaload), (2, .iconst 8), (3, .if_icmp .ne 48)]),
  (46, [(1, .iconst 0), (1, .ireturn)]),
  (48, [(2, .iconst 27), (1, .iconst 3), (1, .aload 0), (3, .getfield 2910), (2, .iconst 26), (1, .iaload), (1, .imul), (1, .iadd), (2, .istore 4), (1, .aload 0), (3, .getfield 2910), (2, .iload 4), (1, .iload 1), (1, .iastore), (1, .aload 0), (3, .getfield 2910), (2, .iload 4), (1, .iconst 1), (1, .iadd), (1, .iload 2), (1, .iastore), (1, .aload 0), (3, .getfield 2910), (2, .iload 4), (1, .iconst 2), (1, .iadd), (1, .iload 3), (1, .iastore), (1, .aload 0), (3, .getfield 2910), (2, .iconst 26), (1, .dup2), (1, .iaload), (1, .iconst 1), (1, .iadd), (1, .iastore), (1, .iconst 1), (1, .ireturn)])])
def ax_m_11_93 : ax_M := (⟨"ShakingCourtModel", "isFelt", "(II)Z"⟩, prog_13_method_94_code, 6, (some .boolean), 1, [
  (0, [(1, .aload 0), (1, .iconst 0), (1, .iload 1), (3, .invokeinterface 1456 13), (1, .istore 3), (1, .iconst 0), (2, .istore 4)]),
  (10, [(2, .iload 4), (1, .aload 0), (3, .getfield 2910), (2, .iconst 26), (1, .iaload), (3, .if_icmp .ge 81), (1, .iload 3), (3, .ifCond .eq 81), (2, .iconst 27), (1, .iconst 3), (2, .iload 4), (1, .imul), (1, .iadd), (2, .istore 5), (1, .aload 0), (1, .iload 1), (1, .iload 2), (1, .aload 0), (3, .getfield 2910), (2, .iload 5), (1, .iaload), (1, .aload 0), (3, .getfield 2910), (2, .iload 5), (1, .iconst 1), (1, .iadd), (1, .iaload), (3, .invokeinterface 1489 21), (1, .aload 0), (3, .getfield 2910), (2, .iload 5), (1, .iconst 2), (1, .iadd), (1, .iaload), (3, .if_icmp .ne 73), (1, .iconst 1), (3, .goto 74)]),
  (73, [(1, .iconst 0)]),
  (74, [(1, .istore 3), (3, .iinc 4 1), (3, .goto 10)]),
  (81, [(1, .iload 3), (1, .ireturn)])])
def ax_m_11_94 : ax_M := (⟨"ShakingCourtModel", "ways", "(I)I"⟩, prog_13_method_95_code, 8, (some .int), 1, [
  (0, [(1, .aload 0), (1, .iconst 0), (3, .putfield 2816), (1, .iload 1), (1, .iconst 0), (1, .iconst 3), (3, .invokeinterface 1424 12), (3, .ifCond .ne 16), (1, .iconst (-1)), (1, .ireturn)]),
  (16, [(1, .iconst 0), (1, .istore 2), (1, .iconst 0), (1, .istore 3), (1, .iconst (-1)), (2, .istore 4), (1, .iconst (-1)), (2, .istore 5), (1, .iconst 1), (2, .istore 6)]),
  (29, [(2, .iload 6), (2, .iconst 20), (3, .if_icmp .gt 99), (1, .iconst 0), (2, .istore 7)]),
  (39, [(2, .iload 7), (1, .aload 0), (3, .invokeinterface 1450 5), (3, .if_icmp .ge 93), (1, .aload 0), (2, .iload 7), (2, .iload 6), (3, .invokeinterface 1501 13), (3, .ifCond .eq 87), (3, .iinc 2 1), (1, .iload 3), (1, .iconst 1), (2, .iload 7), (1, .ishl), (1, .ior), (1, .istore 3), (2, .iload 4), (3, .ifCond .ge 79), (2, .iload 6), (3, .goto 81)]),
  (79, [(2, .iload 4)]),
  (81, [(2, .istore 4), (2, .iload 6), (2, .istore 5)]),
  (87, [(3, .iinc 7 1), (3, .goto 39)]),
  (93, [(3, .iinc 6 1), (3, .goto 29)]),
  (99, [(1, .iload 1), (3, .ifCond .ne 107), (1, .iload 2), (3, .goto 128)]),
  (107, [(1, .iload 1), (1, .iconst 1), (3, .if_icmp .ne 116), (1, .iload 3), (3, .goto 128)]),
  (116, [(1, .iload 1), (1, .iconst 2), (3, .if_icmp .ne 126), (2, .iload 4), (3, .goto 128)]),
  (126, [(2, .iload 5)]),
  (128, [(1, .ireturn)])])
def ax_m_11_95 : ax_M := (⟨"ShakingCourtModel", "look", "(I)I"⟩, prog_13_method_96_code, 8, (some .int), 1, [
  (0, [(1, .aload 0), (1, .iconst 0), (3, .putfield 2816), (1, .iload 1), (1, .iconst 0), (2, .iconst 12), (3, .invokeinterface 1424 12), (3, .ifCond .ne 17), (1, .iconst (-1)), (1, .ireturn)]),
  (17, [(1, .iconst 0), (1, .istore 2)]),
  (19, [(1, .iload 2), (3, .iconst 1200), (3, .if_icmp .ge 39), (1, .aload 0), (3, .getfield 2926), (1, .iload 2), (1, .iconst 0), (1, .iastore), (3, .iinc 2 1), (3, .goto 19)]),
  (39, [(1, .iconst 0), (1, .istore 2), (1, .iconst 0), (1, .istore 3)]),
  (43, [(1, .iload 3), (2, .iconst 20), (1, .aload 0), (3, .invokeinterface 1450 5), (1, .imul), (3, .if_icmp .ge 141), (1, .aload 0), (1, .iload 3), (2, .iconst 20), (1, .idiv), (1, .iconst 1), (1, .iload 3), (2, .iconst 20), (1, .irem), (1, .iadd), (3, .invokeinterface 1501 13), (3, .ifCond .eq 135), (3, .iinc 2 1), (1, .aload 0), (1, .iload 3), (2, .iconst 20), (1, .idiv), (1, .iconst 1), (1, .iload 3), (2, .iconst 20), (1, .irem), (1, .iadd), (1, .iconst 0), (1, .iload 1), (3, .invokeinterface 1489 21), (1, .pop), (1, .iconst 0), (2, .istore 4)]),
  (94, [(2, .iload 4), (1, .aload 0), (3, .invokeinterface 1450 5), (3, .if_icmp .ge 135), (1, .aload 0), (3, .getfield 2926), (2, .iconst 100), (2, .iload 4), (1, .imul), (1, .aload 0), (3, .getfield 2910), (3, .iconst 1094), (2, .iload 4), (1, .iadd), (1, .iaload), (1, .iadd), (1, .dup2), (1, .iaload), (1, .iconst 1), (1, .iadd), (1, .iastore), (3, .iinc 4 1), (3, .goto 94)]),
  (135, [(3, .iinc 3 1), (3, .goto 43)]),
  (141, [(1, .iconst (-1)), (1, .istore 3), (1, .iload 2), (2, .istore 4), (1, .iconst 0), (2, .istore 5)]),
  (149, [(2, .iload 5), (1, .aload 0), (3, .invokeinterface 1450 5), (3, .if_icmp .ge 251), (1, .iconst 0), (2, .istore 6), (1, .iconst 0), (2, .istore 7)]),
  (164, [(2, .iload 7), (2, .iconst 99), (3, .if_icmp .gt 215), (1, .aload 0), (3, .getfield 2926), (2, .iconst 100), (2, .iload 5), (1, .imul), (2, .iload 7), (1, .iadd), (1, .iaload), (2, .iload 6), (3, .if_icmp .le 205), (1, .aload 0), (3, .getfield 2926), (2, .iconst 100), (2, .iload 5), (1, .imul), (2, .iload 7), (1, .iadd), (1, .iaload), (3, .goto 207)]),
  (205, [(2, .iload 6)]),
  (207, [(2, .istore 6), (3, .iinc 7 1), (3, .goto 164)]),
  (215, [(2, .iload 6), (2, .iload 4), (3, .if_icmp .ge 227), (2, .iload 5), (3, .goto 228)]),
  (227, [(1, .iload 3)]),
  (228, [(1, .istore 3), (2, .iload 6), (2, .iload 4), (3, .if_icmp .ge 241), (2, .iload 6), (3, .goto 243)]),
  (241, [(2, .iload 4)]),
  (243, [(2, .istore 4), (3, .iinc 5 1), (3, .goto 149)]),
  (251, [(1, .iload 3), (1, .ireturn)])])
def ax_m_11_96 : ax_M := (⟨"ShakingCourtModel", "share", "(II)I"⟩, prog_13_method_97_code, 6, (some .int), 1, [
  (0, [(1, .aload 0), (1, .iconst 0), (3, .putfield 2816), (1, .aload 0), (1, .iload 1), (3, .invokeinterface 1454 9), (3, .ifCond .eq 23), (1, .iload 2), (1, .iconst 1), (2, .iconst 99), (3, .invokeinterface 1424 12), (3, .ifCond .ne 25)]),
  (23, [(1, .iconst (-1)), (1, .ireturn)]),
  (25, [(1, .iconst 0), (1, .istore 3), (1, .iconst 0), (2, .istore 4)]),
  (30, [(2, .iload 4), (1, .aload 0), (3, .invokeinterface 1451 5), (3, .if_icmp .ge 55), (1, .iload 3), (1, .aload 0), (2, .iload 4), (1, .iconst 2), (3, .invokeinterface 1452 13), (1, .iadd), (1, .istore 3), (3, .iinc 4 1), (3, .goto 30)]),
  (55, [(1, .iload 2), (2, .istore 4), (1, .iconst 0), (2, .istore 5)]),
  (61, [(2, .iload 5), (1, .aload 0), (3, .invokeinterface 1451 5), (3, .if_icmp .ge 100), (2, .iload 4), (1, .iload 3), (3, .ifCond .ne 80), (1, .iconst 0), (3, .goto 91)]),
  (80, [(1, .iload 2), (1, .aload 0), (2, .iload 5), (1, .iconst 2), (3, .invokeinterface 1452 13), (1, .imul), (1, .iload 3), (1, .idiv)]),
  (91, [(1, .isub), (2, .istore 4), (3, .iinc 5 1), (3, .goto 61)]),
  (100, [(1, .iload 3), (3, .ifCond .ne 108), (1, .iconst 0), (3, .goto 118)]),
  (108, [(1, .iload 2), (1, .aload 0), (1, .iload 1), (1, .iconst 2), (3, .invokeinterface 1452 13), (1, .imul), (1, .iload 3), (1, .idiv)]),
  (118, [(2, .istore 5), (2, .iload 5), (2, .iload 4), (1, .aload 0), (3, .invokeinterface 1451 5), (1, .idiv), (1, .iadd), (1, .iload 1), (2, .iload 4), (1, .aload 0), (3, .invokeinterface 1451 5), (1, .irem), (3, .if_icmp .ge 145), (1, .iconst 1), (3, .goto 146)]),
  (145, [(1, .iconst 0)]),
  (146, [(1, .iadd), (1, .ireturn)])])
def ax_m_11_97 : ax_M := (⟨"ShakingCourtModel", "alike", "()I"⟩, prog_13_method_98_code, 4, (some .int), 1, [
  (0, [(1, .aload 0), (1, .iconst 0), (3, .putfield 2816), (1, .iconst 0), (1, .istore 1), (1, .iconst 0), (1, .istore 2)]),
  (9, [(1, .iload 2), (1, .aload 0), (3, .invokeinterface 1450 5), (3, .if_icmp .ge 68), (1, .iload 2), (1, .iconst 1), (1, .iadd), (1, .istore 3)]),
  (21, [(1, .iload 3), (1, .aload 0), (3, .invokeinterface 1450 5), (3, .if_icmp .ge 62), (1, .iload 1), (1, .aload 0), (3, .getfield 2910), (1, .iconst 2), (1, .iload 2), (1, .iadd), (1, .iaload), (1, .aload 0), (3, .getfield 2910), (1, .iconst 2), (1, .iload 3), (1, .iadd), (1, .iaload), (3, .if_icmp .ne 53), (1, .iconst 1), (3, .goto 54)]),
  (53, [(1, .iconst 0)]),
  (54, [(1, .iadd), (1, .istore 1), (3, .iinc 3 1), (3, .goto 21)]),
  (62, [(3, .iinc 2 1), (3, .goto 9)]),
  (68, [(1, .iload 1), (1, .ireturn)])])
def ax_m_11_98 : ax_M := (⟨"ShakingCourtModel", "even", "()Z"⟩, prog_13_method_99_code, 1, (some .boolean), 1, [
  (0, [(1, .aload 0), (1, .iconst 0), (3, .putfield 2816), (1, .aload 0), (3, .invokeinterface 1483 5), (1, .aload 0), (3, .iconst 1092), (3, .invokeinterface 1462 9), (3, .ifCond .ne 23), (1, .iconst 1), (3, .goto 24)]),
  (23, [(1, .iconst 0)]),
  (24, [(1, .ireturn)])])
def ax_m_11_99 : ax_M := (⟨"ShakingCourtModel", "calm", "()I"⟩, prog_13_method_100_code, 4, (some .int), 1, [
  (0, [(1, .aload 0), (1, .iconst 0), (3, .putfield 2816), (1, .iconst 0), (1, .istore 1), (1, .iconst 0), (1, .istore 2)]),
  (9, [(1, .iload 2), (1, .aload 0), (3, .invokeinterface 1450 5), (3, .if_icmp .ge 68), (1, .iconst 0), (1, .istore 3)]),
  (19, [(1, .iload 3), (1, .aload 0), (3, .invokeinterface 1450 5), (3, .if_icmp .ge 51), (1, .aload 0), (3, .getfield 2910), (1, .iconst 2), (1, .iload 2), (1, .iload 3), (1, .iadd), (1, .aload 0), (3, .invokeinterface 1450 5), (1, .irem), (1, .iadd), (1, .iaload), (3, .ifCond .ne 51), (3, .iinc 3 1), (3, .goto 19)]),
  (51, [(1, .iload 3), (1, .iload 1), (3, .if_icmp .le 60), (1, .iload 3), (3, .goto 61)]),
  (60, [(1, .iload 1)]),
  (61, [(1, .istore 1), (3, .iinc 2 1), (3, .goto 9)]),
  (68, [(1, .iload 1), (1, .ireturn)])])
def ax_m_11_100 : ax_M := (⟨"ShakingCourtModel", "loud", "()I"⟩, prog_13_method_101_code, 5, (some .int), 1, [
  (0, [(1, .aload 0), (1, .iconst 0), (3, .putfield 2816), (1, .iconst (-1)), (1, .istore 1), (1, .iconst 0), (1, .istore 2), (1, .iconst 0), (1, .istore 3)]),
  (11, [(1, .iload 3), (1, .aload 0), (3, .invokeinterface 1450 5), (3, .if_icmp .ge 60), (1, .aload 0), (3, .getfield 2910), (1, .iconst 2), (1, .iload 3), (1, .iadd), (1, .iaload), (2, .istore 4), (2, .iload 4), (1, .iload 2), (3, .if_icmp .le 39), (1, .iload 3), (3, .goto 40)]),
  (39, [(1, .iload 1)]),
  (40, [(1, .istore 1), (2, .iload 4), (1, .iload 2), (3, .if_icmp .le 52), (2, .iload 4), (3, .goto 53)]),
  (52, [(1, .iload 2)]),
  (53, [(1, .istore 2), (3, .iinc 3 1), (3, .goto 11)]),
  (60, [(1, .iload 1), (1, .ireturn)])])
def ax_m_11_101 : ax_M := (⟨"ShakingCourtModel", "spread", "()I"⟩, prog_13_method_102_code, 5, (some .int), 1, [
  (0, [(1, .aload 0), (1, .iconst 0), (3, .putfield 2816), (1, .iconst 0), (1, .istore 1), (2, .iconst 99), (1, .istore 2), (1, .iconst 0), (1, .istore 3)]),
  (12, [(1, .iload 3), (1, .aload 0), (3, .invokeinterface 1450 5), (3, .if_icmp .ge 71), (1, .aload 0), (3, .getfield 2910), (1, .iconst 2), (1, .iload 3), (1, .iadd), (1, .iaload), (2, .istore 4), (2, .iload 4), (1, .iload 1), (3, .if_icmp .le 41), (2, .iload 4), (3, .goto 42)]),
  (41, [(1, .iload 1)]),
  (42, [(1, .istore 1), (1, .aload 0), (1, .iconst 0), (1, .iload 3), (3, .invokeinterface 1456 13), (3, .ifCond .eq 63), (2, .iload 4), (1, .iload 2), (3, .if_icmp .ge 63), (2, .iload 4), (3, .goto 64)]),
  (63, [(1, .iload 2)]),
  (64, [(1, .istore 2), (3, .iinc 3 1), (3, .goto 12)]),
  (71, [(1, .iload 1), (1, .iload 2), (3, .if_icmp .ge 80), (1, .iconst 0), (3, .goto 83)]),
  (80, [(1, .iload 1), (1, .iload 2), (1, .isub)]),
  (83, [(1, .ireturn)])])
def ax_m_11_102 : ax_M := (⟨"ShakingCourtModel", "chance", "(III)I"⟩, prog_13_method_103_code, 13, (some .int), 1, [
  (0, [(1, .aload 0), (1, .iconst 0), (3, .putfield 2816), (1, .aload 0), (1, .iconst 0), (1, .iload 1), (3, .invokeinterface 1456 13), (3, .ifCond .eq 34), (1, .iload 2), (1, .iconst 1), (2, .iconst 6), (3, .invokeinterface 1424 12), (3, .ifCond .eq 34), (1, .iload 3), (1, .iconst 0), (2, .iconst 10), (3, .invokeinterface 1424 12), (3, .ifCond .ne 36)]),
  (34, [(1, .iconst (-1)), (1, .ireturn)]),
  (36, [(1, .goto_w 1), (2, .lstore 4), (1, .goto_w 0), (2, .lstore 6), (1, .iconst 0), (2, .istore 8)]),
  (45, [(2, .iload 8), (1, .iload 2), (3, .if_icmp .ge 65), (2, .lload 4), (3, .goto_w 10), (1, .lmul), (2, .lstore 4), (3, .iinc 8 1), (3, .goto 45)]),
  (65, [(1, .iconst 0), (2, .istore 8)]),
  (68, [(2, .iload 8), (1, .iconst 1), (1, .iload 2), (1, .ishl), (3, .if_icmp .ge 184), (1, .aload 0), (3, .invokeinterface 1483 5), (1, .goto_w 1), (2, .lstore 9), (1, .iconst 0), (2, .istore 11)]),
  (86, [(2, .iload 11), (1, .iload 2), (3, .if_icmp .ge 154), (2, .iload 8), (2, .iload 11), (1, .ishr), (1, .iconst 1), (1, .iand), (1, .iconst 1), (3, .if_icmp .ne 107), (1, .iconst 1), (3, .goto 108)]),
  (107, [(1, .iconst 0)]),
  (108, [(2, .istore 12), (2, .lload 9), (2, .iload 12), (3, .ifCond .eq 122), (1, .iload 3), (1, .i2l), (3, .goto 127)]),
  (122, [(2, .iconst 10), (1, .iload 3), (1, .isub), (1, .i2l)]),
  (127, [(1, .lmul), (2, .lstore 9), (1, .aload 0), (3, .iconst 1092), (2, .iload 12), (3, .ifCond .eq 143), (1, .iconst 5), (3, .goto 144)]),
  (143, [(1, .iconst 0)]),
  (144, [(3, .invokeinterface 1466 13), (1, .pop), (3, .iinc 11 1), (3, .goto 86)]),
  (154, [(2, .lload 6), (1, .aload 0), (3, .getfield 2910), (3, .iconst 1094), (1, .iload 1), (1, .iadd), (1, .iaload), (3, .ifCond .le 174), (2, .lload 9), (3, .goto 175)]),
  (174, [(1, .goto_w 0)]),
  (175, [(1, .ladd), (2, .lstore 6), (3, .iinc 8 1), (3, .goto 68)]),
  (184, [(2, .lload 6), (3, .goto_w 1000000), (1, .lmul), (2, .lload 4), (1, .ldiv), (1, .l2i), (1, .ireturn)])])
def ax_m_11_103 : ax_M := (⟨"ShakingCourtModel", "getsBy", "(IIIII)I"⟩, prog_13_method_104_code, 5, (some .int), 0, [
  (0, [(1, .iload 0), (1, .iconst 1), (3, .if_icmp .ne 19), (1, .iload 1), (1, .iconst 1), (3, .if_icmp .ne 14), (1, .iload 2), (3, .goto 30)]),
  (14, [(1, .iload 3), (1, .ineg), (3, .goto 30)]),
  (19, [(1, .iload 1), (1, .iconst 1), (3, .if_icmp .ne 29), (2, .iload 4), (3, .goto 30)]),
  (29, [(1, .iconst 0)]),
  (30, [(1, .ireturn)])])
def ax_m_11_104 : ax_M := (⟨"ShakingCourtModel", "rests", "(IIII)I"⟩, prog_13_method_105_code, 12, (some .int), 1, [
  (0, [(1, .iload 1), (1, .iconst 0), (2, .iconst 9), (3, .invokeinterface 1424 12), (3, .ifCond .eq 40), (1, .iload 2), (1, .iconst 0), (2, .iconst 9), (3, .invokeinterface 1424 12), (3, .ifCond .eq 40), (1, .iload 3), (1, .iconst 0), (2, .iconst 9), (3, .invokeinterface 1424 12), (3, .ifCond .eq 40), (2, .iload 4), (1, .iconst (-1)), (3, .if_icmp .lt 40), (1, .iconst 1), (3, .goto 41)]),
  (40, [(1, .iconst 0)]),
  (41, [(2, .istore 5), (1, .iconst 0), (2, .istore 6), (1, .iconst (-1)), (2, .istore 7), (1, .iconst 0), (2, .istore 8)]),
  (52, [(2, .iload 8), (1, .iconst 4), (3, .if_icmp .ge 174), (2, .iload 5), (3, .ifCond .eq 174), (2, .iload 8), (1, .iconst 2), (1, .idiv), (2, .istore 9), (2, .iload 8), (1, .iconst 2), (1, .irem), (2, .istore 10), (1, .iconst 1), (2, .iload 9), (1, .isub), (2, .iload 10), (1, .iload 1), (1, .iload 2), (1, .iload 3), (3, .invokeinterface 1511 20), (2, .iload 9), (2, .iload 10), (1, .iload 1), (1, .iload 2), (1, .iload 3), (3, .invokeinterface 1511 20), (3, .if_icmp .gt 129), (1, .iconst 1), (2, .iload 10), (1, .isub), (2, .iload 9), (1, .iload 1), (1, .iload 2), (1, .iload 3), (3, .invokeinterface 1511 20), (2, .iload 10), (2, .iload 9), (1, .iload 1), (1, .iload 2), (1, .iload 3), (3, .invokeinterface 1511 20), (3, .if_icmp .gt 129), (1, .iconst 1), (3, .goto 130)]),
  (129, [(1, .iconst 0)]),
  (130, [(2, .istore 11), (2, .iload 11), (3, .ifCond .eq 149), (2, .iload 6), (2, .iload 4), (3, .if_icmp .ne 149), (2, .iload 8), (3, .goto 151)]),
  (149, [(2, .iload 7)]),
  (151, [(2, .istore 7), (2, .iload 6), (2, .iload 11), (3, .ifCond .eq 164), (1, .iconst 1), (3, .goto 165)]),
  (164, [(1, .iconst 0)]),
  (165, [(1, .iadd), (2, .istore 6), (3, .iinc 8 1), (3, .goto 52)]),
  (174, [(1, .aload 0), (2, .iload 5), (3, .ifCond .eq 194), (2, .iload 4), (3, .ifCond .lt 190), (2, .iload 7), (3, .ifCond .lt 194)]),
  (190, [(1, .iconst 0), (3, .goto 195)]),
  (194, [(1, .iconst 1)]),
  (195, [(3, .putfield 2816), (1, .aload 0), (3, .getfield 2816), (3, .ifCond .le 209), (1, .iconst 0), (3, .goto 221)]),
  (209, [(2, .iload 4), (3, .ifCond .ge 219), (2, .iload 6), (3, .goto 221)]),
  (219, [(2, .iload 7)]),
  (221, [(1, .ireturn)])])
def ax_m_11_105 : ax_M := (⟨"ShakingCourtModel", "draw", "(I)I"⟩, prog_13_method_106_code, 2, (some .int), 1, [
  (0, [(1, .aload 0), (1, .aload 0), (3, .getfield 2929), (3, .goto_w 1103515245), (1, .lmul), (3, .goto_w 12345), (1, .ladd), (3, .goto_w 2147483648), (1, .lrem), (3, .putfield 2929), (1, .aload 0), (3, .getfield 2929), (3, .goto_w 65536), (1, .ldiv), (1, .iload 1), (1, .i2l), (1, .lrem), (1, .l2i), (1, .ireturn)])])
def ax_m_11_106 : ax_M := (⟨"ShakingCourtModel", "drawsDeed", "()V"⟩, prog_13_method_107_code, 4, none, 1, [
  (0, [(1, .aload 0), (2, .iconst 8), (3, .invokeinterface 1513 9), (1, .istore 1), (1, .iload 1), (1, .iconst 4), (3, .if_icmp .ge 53), (1, .aload 0), (1, .aload 0), (3, .invokeinterface 1450 5), (3, .invokeinterface 1513 9), (1, .istore 2), (1, .aload 0), (2, .iconst 20), (3, .invokeinterface 1513 9), (1, .iconst 1), (1, .iadd), (1, .istore 3), (1, .aload 0), (3, .iconst 1144), (1, .iload 2), (3, .invokeinterface 1456 13), (3, .ifCond .eq 50), (1, .aload 0), (3, .iconst 1144), (1, .iload 2), (1, .iload 3), (3, .invokeinterface 1459 17)]),
  (50, [(3, .goto 132)]),
  (53, [(1, .iload 1), (1, .iconst 4), (3, .if_icmp .ne 76), (1, .aload 0), (3, .iconst 1144), (1, .aload 0), (1, .aload 0), (3, .invokeinterface 1450 5), (3, .invokeinterface 1513 9), (3, .invokeinterface 1460 13), (3, .goto 132)]),
  (76, [(1, .iload 1), (1, .iconst 5), (3, .if_icmp .ne 92), (1, .aload 0), (3, .iconst 1144), (3, .invokeinterface 1462 9), (1, .pop), (3, .goto 132)]),
  (92, [(1, .iload 1), (2, .iconst 6), (3, .if_icmp .ne 132), (1, .aload 0), (3, .invokeinterface 1451 5), (3, .ifCond .le 132), (1, .aload 0), (1, .aload 0), (3, .invokeinterface 1451 5), (3, .invokeinterface 1513 9), (1, .istore 2), (1, .aload 0), (1, .aload 0), (3, .invokeinterface 1451 5), (3, .invokeinterface 1513 9), (1, .istore 3), (1, .aload 0), (3, .iconst 1144), (1, .iload 2), (1, .iload 3), (3, .invokeinterface 1463 17)]),
  (132, [(1, .return_)])])
def ax_m_11_107 : ax_M := (⟨"ShakingCourtModel", "years", "(III)I"⟩, prog_13_method_108_code, 5, (some .int), 1, [
  (0, [(1, .aload 0), (1, .iconst 0), (3, .putfield 2816), (1, .iload 1), (1, .iconst 0), (3, .iconst 9999), (3, .invokeinterface 1424 12), (3, .ifCond .eq 35), (1, .iload 2), (1, .iconst 1), (2, .iconst 99), (3, .invokeinterface 1424 12), (3, .ifCond .eq 35), (1, .iload 3), (1, .iconst 0), (1, .iconst 2), (3, .invokeinterface 1424 12), (3, .ifCond .ne 37)]),
  (35, [(1, .iconst (-1)), (1, .ireturn)]),
  (37, [(1, .aload 0), (1, .iconst 0), (3, .iconst 1144), (2, .iconst 26), (3, .invokeinterface 1446 17), (1, .aload 0), (1, .iload 1), (1, .i2l), (3, .putfield 2929), (1, .iconst 0), (2, .istore 4)]),
  (56, [(2, .iload 4), (1, .iload 2), (3, .if_icmp .ge 80), (1, .aload 0), (3, .invokeinterface 1514 5), (1, .aload 0), (3, .iconst 1144), (3, .invokeinterface 1467 9), (1, .pop), (3, .iinc 4 1), (3, .goto 56)]),
  (80, [(1, .iload 3), (3, .ifCond .ne 100), (1, .aload 0), (3, .iconst 1144), (3, .invokeinterface 1470 9), (1, .aload 0), (1, .iconst 0), (3, .invokeinterface 1470 9), (1, .isub), (3, .goto 129)]),
  (100, [(1, .iload 3), (1, .iconst 1), (3, .if_icmp .ne 118), (1, .aload 0), (3, .iconst 1144), (3, .invokeinterface 1468 9), (3, .invokeinterface 1471 4), (3, .goto 129)]),
  (118, [(1, .aload 0), (3, .iconst 1146), (1, .aload 0), (3, .invokeinterface 1450 5), (3, .invokeinterface 1469 13)]),
  (129, [(1, .ireturn)])])
def ax_m_11_108 : ax_M := (⟨"ShakingCourtModel", "mark", "(IZ)Z"⟩, prog_13_method_109_code, 3, (some .boolean), 1, [
  (0, [(1, .aload 0), (1, .iconst 0), (3, .putfield 2816), (1, .iload 1), (1, .iconst 0), (1, .iconst 3), (3, .invokeinterface 1424 12), (3, .ifCond .eq 27), (1, .iload 2), (3, .ifCond .eq 29), (1, .aload 0), (3, .getfield 2918), (1, .iload 1), (1, .baload), (3, .ifCond .ne 29)]),
  (27, [(1, .iconst 0), (1, .ireturn)]),
  (29, [(1, .aload 0), (3, .getfield 2918), (1, .iload 1), (1, .iconst 1), (1, .bastore), (1, .aload 0), (1, .iload 2), (3, .ifCond .eq 50), (2, .iconst 52), (1, .iconst 1), (1, .iload 1), (1, .iadd), (1, .imul), (3, .goto 51)]),
  (50, [(1, .iconst 0)]),
  (51, [(1, .iload 2), (3, .ifCond .eq 59), (1, .iconst 0), (3, .goto 65)]),
  (59, [(2, .iconst 52), (1, .iconst 1), (1, .iload 1), (1, .iadd), (1, .imul)]),
  (65, [(2, .iconst 52), (3, .invokeinterface 1446 17), (1, .aload 0), (1, .iload 2), (3, .ifCond .eq 79), (1, .iconst 0), (3, .goto 83)]),
  (79, [(1, .aload 0), (3, .getfield 2912)]),
  (83, [(3, .putfield 2912), (1, .iconst 1), (1, .ireturn)])])
def ax_m_11_109 : ax_M := (⟨"ShakingCourtModel", "count", "(I)I"⟩, prog_13_method_110_code, 2, (some .int), 1, [
  (0, [(1, .aload 0), (1, .iconst 0), (3, .putfield 2816), (1, .iload 1), (62, .tableswitch 142 0 11 #[68, 68, 75, 82, 88, 98, 105, 111, 117, 124, 132, 137])]),
  (68, [(1, .aload 0), (3, .getfield 2858), (1, .iload 1), (1, .iaload), (1, .ireturn)]),
  (75, [(1, .aload 0), (3, .getfield 2910), (1, .iconst 0), (1, .iaload), (1, .ireturn)]),
  (82, [(1, .aload 0), (1, .iconst 0), (3, .invokeinterface 1457 9), (1, .ireturn)]),
  (88, [(1, .aload 0), (1, .iconst 2), (1, .aload 0), (3, .invokeinterface 1450 5), (3, .invokeinterface 1469 13), (1, .ireturn)]),
  (98, [(1, .aload 0), (3, .getfield 2910), (1, .iconst 1), (1, .iaload), (1, .ireturn)]),
  (105, [(1, .aload 0), (1, .iconst 0), (3, .invokeinterface 1468 9), (1, .ireturn)]),
  (111, [(1, .aload 0), (1, .iconst 0), (3, .invokeinterface 1470 9), (1, .ireturn)]),
  (117, [(1, .aload 0), (3, .getfield 2898), (1, .iconst 0), (1, .iaload), (1, .ireturn)]),
  (124, [(1, .aload 0), (3, .getfield 2910), (2, .iconst 26), (1, .iaload), (1, .ireturn)]),
  (132, [(1, .aload 0), (3, .getfield 2912), (1, .ireturn)]),
  (137, [(1, .aload 0), (3, .getfield 2824), (1, .ireturn)]),
  (142, [(1, .iconst (-1)), (1, .ireturn)])])
def ax_m_12_0 : ax_M := (⟨"ShakingCourtLaw", "law", "([I)Z"⟩, code, 7, (some .boolean), 0, [
  (0, [(3, .new 10), (1, .dup), (3, .invokeinterface 1280 6), (1, .astore 1), (3, .new 11), (1, .dup), (3, .invokeinterface 1411 6), (1, .astore 2), (1, .iconst 1), (2, .newarray .long), (1, .astore 3), (1, .iconst 0), (2, .istore 4)]),
  (23, [(2, .iload 4), (1, .aload 0), (1, .arraylength), (2, .iconst 7), (1, .isub), (3, .if_icmp .gt 1504), (1, .aload 0), (2, .iload 4), (1, .iaload), (2, .iconst 63), (1, .iand), (180, .tableswitch 1498 0 40 #[220, 367, 380, 393, 418, 455, 492, 517, 542, 555, 592, 605, 618, 643, 680, 693, 718, 755, 816, 841, 854, 903, 928, 953, 990, 1003, 1016, 1029, 1042, 1055, 1092, 1129, 1154, 1167, 1192, 1205, 1230, 1279, 1371, 1420, 1473])]),
  (220, [(1, .aload 1), (1, .aload 0), (2, .iload 4), (1, .iconst 1), (1, .iadd), (1, .iaload), (1, .i2l), (2, .iconst 32), (1, .lshl), (1, .aload 0), (2, .iload 4), (1, .iconst 2), (1, .iadd), (1, .iaload), (1, .i2l), (3, .goto_w 4294967295), (1, .land), (1, .lor), (1, .aload 0), (2, .iload 4), (1, .iconst 3), (1, .iadd), (1, .iaload), (1, .i2l), (2, .iconst 32), (1, .lshl), (1, .aload 0), (2, .iload 4), (1, .iconst 4), (1, .iadd), (1, .iaload), (1, .i2l), (3, .goto_w 4294967295), (1, .land), (1, .lor), (1, .aload 0), (2, .iload 4), (1, .iconst 5), (1, .iadd), (1, .iaload), (1, .i2l), (2, .iconst 32), (1, .lshl), (1, .aload 0), (2, .iload 4), (2, .iconst 6), (1, .iadd), (1, .iaload), (1, .i2l), (3, .goto_w 4294967295), (1, .land), (1, .lor), (3, .invokeinterface 1281 17), (1, .aload 2), (1, .aload 0), (2, .iload 4), (1, .iconst 1), (1, .iadd), (1, .iaload), (1, .i2l), (2, .iconst 32), (1, .lshl), (1, .aload 0), (2, .iload 4), (1, .iconst 2), (1, .iadd), (1, .iaload), (1, .i2l), (3, .goto_w 4294967295), (1, .land), (1, .lor), (1, .aload 0), (2, .iload 4), (1, .iconst 3), (1, .iadd), (1, .iaload), (1, .i2l), (2, .iconst 32), (1, .lshl), (1, .aload 0), (2, .iload 4), (1, .iconst 4), (1, .iadd), (1, .iaload), (1, .i2l), (3, .goto_w 4294967295), (1, .land), (1, .lor), (1, .aload 0), (2, .iload 4), (1, .iconst 5), (1, .iadd), (1, .iaload), (1, .i2l), (2, .iconst 32), (1, .lshl), (1, .aload 0), (2, .iload 4), (2, .iconst 6), (1, .iadd), (1, .iaload), (1, .i2l), (3, .goto_w 4294967295), (1, .land), (1, .lor), (3, .invokeinterface 1409 17), (3, .if_icmp .eq 1498), (1, .iconst 0), (1, .ireturn)]),
  (367, [(1, .aload 1), (3, .invokeinterface 1282 5), (1, .aload 2), (3, .invokeinterface 1433 5), (3, .if_icmp .eq 1498), (1, .iconst 0), (1, .ireturn)]),
  (380, [(1, .aload 1), (3, .invokeinterface 1283 5), (1, .aload 2), (3, .invokeinterface 1437 5), (3, .if_icmp .eq 1498), (1, .iconst 0), (1, .ireturn)]),
  (393, [(1, .aload 1), (1, .aload 0), (2, .iload 4), (1, .iconst 1), (1, .iadd), (1, .iaload), (3, .invokeinterface 1284 9), (1, .aload 2), (1, .aload 0), (2, .iload 4), (1, .iconst 1), (1, .iadd), (1, .iaload), (3, .invokeinterface 1472 9), (3, .if_icmp .eq 1498), (1, .iconst 0), (1, .ireturn)]),
  (418, [(1, .aload 1), (1, .aload 0), (2, .iload 4), (1, .iconst 1), (1, .iadd), (1, .iaload), (1, .aload 0), (2, .iload 4), (1, .iconst 2), (1, .iadd), (1, .iaload), (3, .invokeinterface 1285 13), (1, .aload 2), (1, .aload 0), (2, .iload 4), (1, .iconst 1), (1, .iadd), (1, .iaload), (1, .aload 0), (2, .iload 4), (1, .iconst 2), (1, .iadd), (1, .iaload), (3, .invokeinterface 1473 13), (3, .if_icmp .eq 1498), (1, .iconst 0), (1, .ireturn)]),
  (455, [(1, .aload 1), (1, .aload 0), (2, .iload 4), (1, .iconst 1), (1, .iadd), (1, .iaload), (1, .aload 0), (2, .iload 4), (1, .iconst 2), (1, .iadd), (1, .iaload), (3, .invokeinterface 1286 13), (1, .aload 2), (1, .aload 0), (2, .iload 4), (1, .iconst 1), (1, .iadd), (1, .iaload), (1, .aload 0), (2, .iload 4), (1, .iconst 2), (1, .iadd), (1, .iaload), (3, .invokeinterface 1474 13), (3, .if_icmp .eq 1498), (1, .iconst 0), (1, .ireturn)]),
  (492, [(1, .aload 1), (1, .aload 0), (2, .iload 4), (1, .iconst 1), (1, .iadd), (1, .iaload), (3, .invokeinterface 1287 9), (1, .aload 2), (1, .aload 0), (2, .iload 4), (1, .iconst 1), (1, .iadd), (1, .iaload), (3, .invokeinterface 1475 9), (3, .if_icmp .eq 1498), (1, .iconst 0), (1, .ireturn)]),
  (517, [(1, .aload 1), (1, .aload 0), (2, .iload 4), (1, .iconst 1), (1, .iadd), (1, .iaload), (3, .invokeinterface 1288 9), (1, .aload 2), (1, .aload 0), (2, .iload 4), (1, .iconst 1), (1, .iadd), (1, .iaload), (3, .invokeinterface 1476 9), (3, .if_icmp .eq 1498), (1, .iconst 0), (1, .ireturn)]),
  (542, [(1, .aload 1), (3, .invokeinterface 1289 5), (1, .aload 2), (3, .invokeinterface 1477 5), (3, .if_icmp .eq 1498), (1, .iconst 0), (1, .ireturn)]),
  (555, [(1, .aload 1), (1, .aload 0), (2, .iload 4), (1, .iconst 1), (1, .iadd), (1, .iaload), (1, .aload 0), (2, .iload 4), (1, .iconst 2), (1, .iadd), (1, .iaload), (3, .invokeinterface 1290 13), (1, .aload 2), (1, .aload 0), (2, .iload 4), (1, .iconst 1), (1, .iadd), (1, .iaload), (1, .aload 0), (2, .iload 4), (1, .iconst 2), (1, .iadd), (1, .iaload), (3, .invokeinterface 1478 13), (3, .if_icmp .eq 1498), (1, .iconst 0), (1, .ireturn)]),
  (592, [(1, .aload 1), (3, .invokeinterface 1291 5), (1, .aload 2), (3, .invokeinterface 1479 5), (3, .if_icmp .eq 1498), (1, .iconst 0), (1, .ireturn)]),
  (605, [(1, .aload 1), (3, .invokeinterface 1292 5), (1, .aload 2), (3, .invokeinterface 1480 5), (3, .if_icmp .eq 1498), (1, .iconst 0), (1, .ireturn)]),
  (618, [(1, .aload 1), (1, .aload 0), (2, .iload 4), (1, .iconst 1), (1, .iadd), (1, .iaload), (3, .invokeinterface 1293 9), (1, .aload 2), (1, .aload 0), (2, .iload 4), (1, .iconst 1), (1, .iadd), (1, .iaload), (3, .invokeinterface 1482 9), (3, .if_icmp .eq 1498), (1, .iconst 0), (1, .ireturn)]),
  (643, [(1, .aload 1), (1, .aload 0), (2, .iload 4), (1, .iconst 1), (1, .iadd), (1, .iaload), (1, .aload 0), (2, .iload 4), (1, .iconst 2), (1, .iadd), (1, .iaload), (3, .invokeinterface 1294 13), (1, .aload 2), (1, .aload 0), (2, .iload 4), (1, .iconst 1), (1, .iadd), (1, .iaload), (1, .aload 0), (2, .iload 4), (1, .iconst 2), (1, .iadd), (1, .iaload), (3, .invokeinterface 1485 13), (3, .if_icmp .eq 1498), (1, .iconst 0), (1, .ireturn)]),
  (680, [(1, .aload 1), (3, .invokeinterface 1295 5), (1, .aload 2), (3, .invokeinterface 1486 5), (3, .if_icmp .eq 1498), (1, .iconst 0), (1, .ireturn)]),
  (693, [(1, .aload 1), (1, .aload 0), (2, .iload 4), (1, .iconst 1), (1, .iadd), (1, .iaload), (3, .invokeinterface 1296 9), (1, .aload 2), (1, .aload 0), (2, .iload 4), (1, .iconst 1), (1, .iadd), (1, .iaload), (3, .invokeinterface 1487 9), (3, .if_icmp .eq 1498), (1, .iconst 0), (1, .ireturn)]),
  (718, [(1, .aload 1), (1, .aload 0), (2, .iload 4), (1, .iconst 1), (1, .iadd), (1, .iaload), (1, .aload 0), (2, .iload 4), (1, .iconst 2), (1, .iadd), (1, .iaload), (3, .invokeinterface 1297 13), (1, .aload 2), (1, .aload 0), (2, .iload 4), (1, .iconst 1), (1, .iadd), (1, .iaload), (1, .aload 0), (2, .iload 4), (1, .iconst 2), (1, .iadd), (1, .iaload), (3, .invokeinterface 1488 13), (3, .if_icmp .eq 1498), (1, .iconst 0), (1, .ireturn)]),
  (755, [(1, .aload 1), (1, .aload 0), (2, .iload 4), (1, .iconst 1), (1, .iadd), (1, .iaload), (1, .aload 0), (2, .iload 4), (1, .iconst 2), (1, .iadd), (1, .iaload), (1, .aload 0), (2, .iload 4), (1, .iconst 3), (1, .iadd), (1, .iaload), (1, .aload 0), (2, .iload 4), (1, .iconst 4), (1, .iadd), (1, .iaload), (3, .invokeinterface 1298 21), (1, .aload 2), (1, .aload 0), (2, .iload 4), (1, .iconst 1), (1, .iadd), (1, .iaload), (1, .aload 0), (2, .iload 4), (1, .iconst 2), (1, .iadd), (1, .iaload), (1, .aload 0), (2, .iload 4), (1, .iconst 3), (1, .iadd), (1, .iaload), (1, .aload 0), (2, .iload 4), (1, .iconst 4), (1, .iadd), (1, .iaload), (3, .invokeinterface 1490 21), (3, .if_icmp .eq 1498), (1, .iconst 0), (1, .ireturn)]),
  (816, [(1, .aload 1), (1, .aload 0), (2, .iload 4), (1, .iconst 1), (1, .iadd), (1, .iaload), (3, .invokeinterface 1299 9), (1, .aload 2), (1, .aload 0), (2, .iload 4), (1, .iconst 1), (1, .iadd), (1, .iaload), (3, .invokeinterface 1491 9), (3, .if_icmp .eq 1498), (1, .iconst 0), (1, .ireturn)]),
  (841, [(1, .aload 1), (3, .invokeinterface 1300 5), (1, .aload 2), (3, .invokeinterface 1492 5), (3, .if_icmp .eq 1498), (1, .iconst 0), (1, .ireturn)]),
  (854, [(1, .aload 1), (1, .aload 0), (2, .iload 4), (1, .iconst 1), (1, .iadd), (1, .iaload), (1, .aload 0), (2, .iload 4), (1, .iconst 2), (1, .iadd), (1, .iaload), (1, .aload 0), (2, .iload 4), (1, .iconst 3), (1, .iadd), (1, .iaload), (3, .invokeinterface 1301 17), (1, .aload 2), (1, .aload 0), (2, .iload 4), (1, .iconst 1), (1, .iadd), (1, .iaload), (1, .aload 0), (2, .iload 4), (1, .iconst 2), (1, .iadd), (1, .iaload), (1, .aload 0), (2, .iload 4), (1, .iconst 3), (1, .iadd), (1, .iaload), (3, .invokeinterface 1500 17), (3, .if_icmp .eq 1498), (1, .iconst 0), (1, .ireturn)]),
  (903, [(1, .aload 1), (1, .aload 0), (2, .iload 4), (1, .iconst 1), (1, .iadd), (1, .iaload), (3, .invokeinterface 1302 9), (1, .aload 2), (1, .aload 0), (2, .iload 4), (1, .iconst 1), (1, .iadd), (1, .iaload), (3, .invokeinterface 1502 9), (3, .if_icmp .eq 1498), (1, .iconst 0), (1, .ireturn)]),
  (928, [(1, .aload 1), (1, .aload 0), (2, .iload 4), (1, .iconst 1), (1, .iadd), (1, .iaload), (3, .invokeinterface 1303 9), (1, .aload 2), (1, .aload 0), (2, .iload 4), (1, .iconst 1), (1, .iadd), (1, .iaload), (3, .invokeinterface 1503 9), (3, .if_icmp .eq 1498), (1, .iconst 0), (1, .ireturn)]),
  (953, [(1, .aload 1), (1, .aload 0), (2, .iload 4), (1, .iconst 1), (1, .iadd), (1, .iaload), (1, .aload 0), (2, .iload 4), (1, .iconst 2), (1, .iadd), (1, .iaload), (3, .invokeinterface 1304 13), (1, .aload 2), (1, .aload 0), (2, .iload 4), (1, .iconst 1), (1, .iadd), (1, .iaload), (1, .aload 0), (2, .iload 4), (1, .iconst 2), (1, .iadd), (1, .iaload), (3, .invokeinterface 1504 13), (3, .if_icmp .eq 1498), (1, .iconst 0), (1, .ireturn)]),
  (990, [(1, .aload 1), (3, .invokeinterface 1305 5), (1, .aload 2), (3, .invokeinterface 1505 5), (3, .if_icmp .eq 1498), (1, .iconst 0), (1, .ireturn)]),
  (1003, [(1, .aload 1), (3, .invokeinterface 1306 5), (1, .aload 2), (3, .invokeinterface 1506 5), (3, .if_icmp .eq 1498), (1, .iconst 0), (1, .ireturn)]),
  (1016, [(1, .aload 1), (3, .invokeinterface 1307 5), (1, .aload 2), (3, .invokeinterface 1507 5), (3, .if_icmp .eq 1498), (1, .iconst 0), (1, .ireturn)]),
  (1029, [(1, .aload 1), (3, .invokeinterface 1308 5), (1, .aload 2), (3, .invokeinterface 1508 5), (3, .if_icmp .eq 1498), (1, .iconst 0), (1, .ireturn)]),
  (1042, [(1, .aload 1), (3, .invokeinterface 1309 5), (1, .aload 2), (3, .invokeinterface 1509 5), (3, .if_icmp .eq 1498), (1, .iconst 0), (1, .ireturn)]),
  (1055, [(1, .aload 1), (1, .aload 0), (2, .iload 4), (1, .iconst 1), (1, .iadd), (1, .iaload), (1, .aload 0), (2, .iload 4), (1, .iconst 2), (1, .iadd), (1, .iaload), (3, .invokeinterface 1310 13), (1, .aload 2), (1, .aload 0), (2, .iload 4), (1, .iconst 1), (1, .iadd), (1, .iaload), (1, .aload 0), (2, .iload 4), (1, .iconst 2), (1, .iadd), (1, .iaload), (3, .invokeinterface 1493 13), (3, .if_icmp .eq 1498), (1, .iconst 0), (1, .ireturn)]),
  (1092, [(1, .aload 1), (1, .aload 0), (2, .iload 4), (1, .iconst 1), (1, .iadd), (1, .iaload), (1, .aload 0), (2, .iload 4), (1, .iconst 2), (1, .iadd), (1, .iaload), (3, .invokeinterface 1311 13), (1, .aload 2), (1, .aload 0), (2, .iload 4), (1, .iconst 1), (1, .iadd), (1, .iaload), (1, .aload 0), (2, .iload 4), (1, .iconst 2), (1, .iadd), (1, .iaload), (3, .invokeinterface 1494 13), (3, .if_icmp .eq 1498), (1, .iconst 0), (1, .ireturn)]),
  (1129, [(1, .aload 1), (1, .aload 0), (2, .iload 4), (1, .iconst 1), (1, .iadd), (1, .iaload), (3, .invokeinterface 1312 9), (1, .aload 2), (1, .aload 0), (2, .iload 4), (1, .iconst 1), (1, .iadd), (1, .iaload), (3, .invokeinterface 1495 9), (3, .if_icmp .eq 1498), (1, .iconst 0), (1, .ireturn)]),
  (1154, [(1, .aload 1), (3, .invokeinterface 1313 5), (1, .aload 2), (3, .invokeinterface 1496 5), (3, .if_icmp .eq 1498), (1, .iconst 0), (1, .ireturn)]),
  (1167, [(1, .aload 1), (1, .aload 0), (2, .iload 4), (1, .iconst 1), (1, .iadd), (1, .iaload), (3, .invokeinterface 1314 9), (1, .aload 2), (1, .aload 0), (2, .iload 4), (1, .iconst 1), (1, .iadd), (1, .iaload), (3, .invokeinterface 1497 9), (3, .if_icmp .eq 1498), (1, .iconst 0), (1, .ireturn)]),
  (1192, [(1, .aload 1), (3, .invokeinterface 1315 5), (1, .aload 2), (3, .invokeinterface 1498 5), (3, .if_icmp .eq 1498), (1, .iconst 0), (1, .ireturn)]),
  (1205, [(1, .aload 1), (1, .aload 0), (2, .iload 4), (1, .iconst 1), (1, .iadd), (1, .iaload), (3, .invokeinterface 1316 9), (1, .aload 2), (1, .aload 0), (2, .iload 4), (1, .iconst 1), (1, .iadd), (1, .iaload), (3, .invokeinterface 1499 9), (3, .if_icmp .eq 1498), (1, .iconst 0), (1, .ireturn)]),
  (1230, [(1, .aload 1), (1, .aload 0), (2, .iload 4), (1, .iconst 1), (1, .iadd), (1, .iaload), (1, .aload 0), (2, .iload 4), (1, .iconst 2), (1, .iadd), (1, .iaload), (1, .aload 0), (2, .iload 4), (1, .iconst 3), (1, .iadd), (1, .iaload), (3, .invokeinterface 1317 17), (1, .aload 2), (1, .aload 0), (2, .iload 4), (1, .iconst 1), (1, .iadd), (1, .iaload), (1, .aload 0), (2, .iload 4), (1, .iconst 2), (1, .iadd), (1, .iaload), (1, .aload 0), (2, .iload 4), (1, .iconst 3), (1, .iadd), (1, .iaload), (3, .invokeinterface 1510 17), (3, .if_icmp .eq 1498), (1, .iconst 0), (1, .ireturn)]),
  (1279, [(1, .aload 1), (1, .aload 0), (2, .iload 4), (1, .iconst 1), (1, .iadd), (1, .iaload), (1, .aload 0), (2, .iload 4), (1, .iconst 2), (1, .iadd), (1, .iaload), (1, .aload 0), (2, .iload 4), (1, .iconst 3), (1, .iadd), (1, .iaload), (1, .aload 0), (2, .iload 4), (1, .iconst 4), (1, .iadd), (1, .iaload), (1, .aload 3), (3, .invokedynamic 4), (2, .istore 5), (1, .aload 2), (1, .aload 0), (2, .iload 4), (1, .iconst 1), (1, .iadd), (1, .iaload), (1, .aload 0), (2, .iload 4), (1, .iconst 2), (1, .iadd), (1, .iaload), (1, .aload 0), (2, .iload 4), (1, .iconst 3), (1, .iadd), (1, .iaload), (1, .aload 0), (2, .iload 4), (1, .iconst 4), (1, .iadd), (1, .iaload), (3, .invokeinterface 1512 21), (2, .istore 6), (1, .aload 2), (3, .invokeinterface 1408 5), (2, .iload 5), (3, .if_icmp .eq 1351), (1, .iconst 0), (1, .ireturn)]),
  (1351, [(2, .iload 5), (3, .ifCond .ne 1368), (1, .aload 3), (1, .iconst 0), (1, .laload), (2, .iload 6), (1, .i2l), (1, .lcmp), (3, .ifCond .eq 1368), (1, .iconst 0), (1, .ireturn)]),
  (1368, [(3, .goto 1498)]),
  (1371, [(1, .aload 1), (1, .aload 0), (2, .iload 4), (1, .iconst 1), (1, .iadd), (1, .iaload), (1, .aload 0), (2, .iload 4), (1, .iconst 2), (1, .iadd), (1, .iaload), (1, .aload 0), (2, .iload 4), (1, .iconst 3), (1, .iadd), (1, .iaload), (3, .invokeinterface 1318 17), (1, .aload 2), (1, .aload 0), (2, .iload 4), (1, .iconst 1), (1, .iadd), (1, .iaload), (1, .aload 0), (2, .iload 4), (1, .iconst 2), (1, .iadd), (1, .iaload), (1, .aload 0), (2, .iload 4), (1, .iconst 3), (1, .iadd), (1, .iaload), (3, .invokeinterface 1515 17), (3, .if_icmp .eq 1498), (1, .iconst 0), (1, .ireturn)]),
  (1420, [(1, .aload 1), (1, .aload 0), (2, .iload 4), (1, .iconst 1), (1, .iadd), (1, .iaload), (1, .aload 0), (2, .iload 4), (1, .iconst 2), (1, .iadd), (1, .iaload), (3, .ifCond .eq 1440), (1, .iconst 1), (3, .goto 1441)]),
  (1440, [(1, .iconst 0)]),
  (1441, [(3, .invokeinterface 1319 13), (1, .aload 2), (1, .aload 0), (2, .iload 4), (1, .iconst 1), (1, .iadd), (1, .iaload), (1, .aload 0), (2, .iload 4), (1, .iconst 2), (1, .iadd), (1, .iaload), (3, .ifCond .eq 1464), (1, .iconst 1), (3, .goto 1465)]),
  (1464, [(1, .iconst 0)]),
  (1465, [(3, .invokeinterface 1516 13), (3, .if_icmp .eq 1498), (1, .iconst 0), (1, .ireturn)]),
  (1473, [(1, .aload 1), (1, .aload 0), (2, .iload 4), (1, .iconst 1), (1, .iadd), (1, .iaload), (3, .invokeinterface 1320 9), (1, .aload 2), (1, .aload 0), (2, .iload 4), (1, .iconst 1), (1, .iadd), (1, .iaload), (3, .invokeinterface 1517 9), (3, .if_icmp .eq 1498), (1, .iconst 0), (1, .ireturn)]),
  (1498, [(3, .iinc 4 7), (3, .goto 23)]),
  (1504, [(1, .iconst 1), (1, .ireturn)])])
def ax_m_13_0 : ax_M := (⟨"java/lang/Math", "floorMod", "(II)I"⟩, prog_19_method_50_code, 3, (some .int), 0, [
  (0, [(1, .iload 0), (1, .iload 1), (1, .irem), (1, .istore 2), (1, .iload 0), (1, .iload 1), (1, .ixor), (3, .ifCond .ge 18), (1, .iload 2), (3, .ifCond .eq 18), (1, .iload 2), (1, .iload 1), (1, .iadd), (1, .ireturn)]),
  (18, [(1, .iload 2), (1, .ireturn)])])
def ax_m_13_1 : ax_M := (⟨"java/lang/Math", "max", "(II)I"⟩, prog_19_method_65_code, 2, (some .int), 0, [
  (0, [(1, .iload 0), (1, .iload 1), (3, .if_icmp .lt 9), (1, .iload 0), (3, .goto 10)]),
  (9, [(1, .iload 1)]),
  (10, [(1, .ireturn)])])
def ax_m_13_2 : ax_M := (⟨"java/lang/Math", "min", "(II)I"⟩, prog_19_method_69_code, 2, (some .int), 0, [
  (0, [(1, .iload 0), (1, .iload 1), (3, .if_icmp .gt 9), (1, .iload 0), (3, .goto 10)]),
  (9, [(1, .iload 1)]),
  (10, [(1, .ireturn)])])
def ax_m_14_0 : ax_M := (⟨"java/lang/Integer", "bitCount", "(I)I"⟩, prog_18_method_49_code, 1, (some .int), 0, [
  (0, [(1, .iload 0), (1, .iload 0), (1, .iconst 1), (1, .iushr), (3, .iconst 1431655765), (1, .iand), (1, .isub), (1, .istore 0), (1, .iload 0), (3, .iconst 858993459), (1, .iand), (1, .iload 0), (1, .iconst 2), (1, .iushr), (3, .iconst 858993459), (1, .iand), (1, .iadd), (1, .istore 0), (1, .iload 0), (1, .iload 0), (1, .iconst 4), (1, .iushr), (1, .iadd), (3, .iconst 252645135), (1, .iand), (1, .istore 0), (1, .iload 0), (1, .iload 0), (2, .iconst 8), (1, .iushr), (1, .iadd), (1, .istore 0), (1, .iload 0), (1, .iload 0), (2, .iconst 16), (1, .iushr), (1, .iadd), (1, .istore 0), (1, .iload 0), (2, .iconst 63), (1, .iand), (1, .ireturn)])])
def ax_m_15_0 : ax_M := (⟨"java/util/Arrays", "fill", "([II)V"⟩, prog_28_method_103_code, 4, none, 0, [
  (0, [(1, .iconst 0), (1, .istore 2), (1, .aload 0), (1, .arraylength), (1, .istore 3)]),
  (5, [(1, .iload 2), (1, .iload 3), (3, .if_icmp .ge 20), (1, .aload 0), (1, .iload 2), (1, .iload 1), (1, .iastore), (3, .iinc 2 1), (3, .goto 5)]),
  (20, [(1, .return_)])])
def ax_c_0 : List ax_M := [ax_m_0_0, ax_m_0_1, ax_m_0_2, ax_m_0_3, ax_m_0_4, ax_m_0_5, ax_m_0_6, ax_m_0_7, ax_m_0_8, ax_m_0_9, ax_m_0_10, ax_m_0_11, ax_m_0_12, ax_m_0_13, ax_m_0_14, ax_m_0_15, ax_m_0_16, ax_m_0_17, ax_m_0_18, ax_m_0_19, ax_m_0_20, ax_m_0_21, ax_m_0_22, ax_m_0_23, ax_m_0_24, ax_m_0_25, ax_m_0_26]
def ax_c_1 : List ax_M := [ax_m_1_0, ax_m_1_1, ax_m_1_2, ax_m_1_3, ax_m_1_4, ax_m_1_5, ax_m_1_6, ax_m_1_7, ax_m_1_8, ax_m_1_9, ax_m_1_10]
def ax_c_2 : List ax_M := [ax_m_2_0, ax_m_2_1, ax_m_2_2, ax_m_2_3, ax_m_2_4]
def ax_c_3 : List ax_M := [ax_m_3_0, ax_m_3_1, ax_m_3_2, ax_m_3_3, ax_m_3_4]
def ax_c_4 : List ax_M := [ax_m_4_0, ax_m_4_1, ax_m_4_2, ax_m_4_3, ax_m_4_4, ax_m_4_5]
def ax_c_5 : List ax_M := [ax_m_5_0, ax_m_5_1, ax_m_5_2, ax_m_5_3, ax_m_5_4, ax_m_5_5, ax_m_5_6, ax_m_5_7, ax_m_5_8]
def ax_c_6 : List ax_M := [ax_m_6_0, ax_m_6_1, ax_m_6_2, ax_m_6_3, ax_m_6_4, ax_m_6_5, ax_m_6_6, ax_m_6_7, ax_m_6_8, ax_m_6_9, ax_m_6_10, ax_m_6_11, ax_m_6_12, ax_m_6_13, ax_m_6_14, ax_m_6_15, ax_m_6_16, ax_m_6_17, ax_m_6_18]
def ax_c_7 : List ax_M := [ax_m_7_0, ax_m_7_1, ax_m_7_2]
def ax_c_8 : List ax_M := [ax_m_8_0, ax_m_8_1, ax_m_8_2, ax_m_8_3, ax_m_8_4, ax_m_8_5, ax_m_8_6, ax_m_8_7, ax_m_8_8, ax_m_8_9, ax_m_8_10, ax_m_8_11, ax_m_8_12, ax_m_8_13, ax_m_8_14, ax_m_8_15, ax_m_8_16, ax_m_8_17, ax_m_8_18, ax_m_8_19, ax_m_8_20, ax_m_8_21, ax_m_8_22, ax_m_8_23, ax_m_8_24, ax_m_8_25, ax_m_8_26, ax_m_8_27, ax_m_8_28]
def ax_c_9 : List ax_M := [ax_m_9_0, ax_m_9_1, ax_m_9_2, ax_m_9_3, ax_m_9_4, ax_m_9_5, ax_m_9_6, ax_m_9_7, ax_m_9_8, ax_m_9_9, ax_m_9_10, ax_m_9_11, ax_m_9_12, ax_m_9_13, ax_m_9_14]
def ax_c_10 : List ax_M := [ax_m_10_0, ax_m_10_1, ax_m_10_2, ax_m_10_3, ax_m_10_4, ax_m_10_5, ax_m_10_6, ax_m_10_7, ax_m_10_8, ax_m_10_9, ax_m_10_10, ax_m_10_11, ax_m_10_12, ax_m_10_13, ax_m_10_14, ax_m_10_15, ax_m_10_16, ax_m_10_17, ax_m_10_18, ax_m_10_19, ax_m_10_20, ax_m_10_21, ax_m_10_22, ax_m_10_23, ax_m_10_24, ax_m_10_25, ax_m_10_26, ax_m_10_27, ax_m_10_28, ax_m_10_29, ax_m_10_30, ax_m_10_31, ax_m_10_32, ax_m_10_33, ax_m_10_34, ax_m_10_35, ax_m_10_36, ax_m_10_37, ax_m_10_38, ax_m_10_39, ax_m_10_40, ax_m_10_41, ax_m_10_42]
def ax_c_11 : List ax_M := [ax_m_11_0, ax_m_11_1, ax_m_11_2, ax_m_11_3, ax_m_11_4, ax_m_11_5, ax_m_11_6, ax_m_11_7, ax_m_11_8, ax_m_11_9, ax_m_11_10, ax_m_11_11, ax_m_11_12, ax_m_11_13, ax_m_11_14, ax_m_11_15, ax_m_11_16, ax_m_11_17, ax_m_11_18, ax_m_11_19, ax_m_11_20, ax_m_11_21, ax_m_11_22, ax_m_11_23, ax_m_11_24, ax_m_11_25, ax_m_11_26, ax_m_11_27, ax_m_11_28, ax_m_11_29, ax_m_11_30, ax_m_11_31, ax_m_11_32, ax_m_11_33, ax_m_11_34, ax_m_11_35, ax_m_11_36, ax_m_11_37, ax_m_11_38, ax_m_11_39, ax_m_11_40, ax_m_11_41, ax_m_11_42, ax_m_11_43, ax_m_11_44, ax_m_11_45, ax_m_11_46, ax_m_11_47, ax_m_11_48, ax_m_11_49, ax_m_11_50, ax_m_11_51, ax_m_11_52, ax_m_11_53, ax_m_11_54, ax_m_11_55, ax_m_11_56, ax_m_11_57, ax_m_11_58, ax_m_11_59, ax_m_11_60, ax_m_11_61, ax_m_11_62, ax_m_11_63, ax_m_11_64, ax_m_11_65, ax_m_11_66, ax_m_11_67, ax_m_11_68, ax_m_11_69, ax_m_11_70, ax_m_11_71, ax_m_11_72, ax_m_11_73, ax_m_11_74, ax_m_11_75, ax_m_11_76, ax_m_11_77, ax_m_11_78, ax_m_11_79, ax_m_11_80, ax_m_11_81, ax_m_11_82, ax_m_11_83, ax_m_11_84, ax_m_11_85, ax_m_11_86, ax_m_11_87, ax_m_11_88, ax_m_11_89, ax_m_11_90, ax_m_11_91, ax_m_11_92, ax_m_11_93, ax_m_11_94, ax_m_11_95, ax_m_11_96, ax_m_11_97, ax_m_11_98, ax_m_11_99, ax_m_11_100, ax_m_11_101, ax_m_11_102, ax_m_11_103, ax_m_11_104, ax_m_11_105, ax_m_11_106, ax_m_11_107, ax_m_11_108, ax_m_11_109]
def ax_c_12 : List ax_M := [ax_m_12_0]
def ax_c_13 : List ax_M := [ax_m_13_0, ax_m_13_1, ax_m_13_2]
def ax_c_14 : List ax_M := [ax_m_14_0]
def ax_c_15 : List ax_M := [ax_m_15_0]
def ax_cs : List (List ax_M) := [ax_c_0, ax_c_1, ax_c_2, ax_c_3, ax_c_4, ax_c_5, ax_c_6, ax_c_7, ax_c_8, ax_c_9, ax_c_10, ax_c_11, ax_c_12, ax_c_13, ax_c_14, ax_c_15]
def ax_m (M : Nat) : Option ax_M := match ax_cs[M / 128]? with
  | some l => l[M % 128]?
  | none => none
def ax_blk (M pc : Nat) : Option (List (Nat × Instr)) := match ax_m M with
  | some m => m.2.2.2.2.2.lookup pc
  | none => none
def ax_r_0 : List (Nat × Nat × Int) := [(3, 3, 0), (9, 0, 18), (15, 0, 22), (18, 0, 26), (21, 0, 256), (27, 0, 0), (28, 0, 260), (31, 0, 4), (32, 0, 8), (35, 0, 12), (38, 1, 1920), (44, 0, 270), (45, 3, 1), (51, 2, 1322), (55, 1, 3), (59, 1, 4), (62, 1, 5), (65, 1, 6), (68, 1, 9), (72, 1, 10), (76, 1, 11), (79, 1, 12), (82, 1, 13), (85, 1, 1666), (91, 1, 1665), (94, 1, 17), (98, 1, 23), (101, 1, 22), (104, 1, 14)]
def ax_r_1 : List (Nat × Nat × Int) := [(3, 3, 0), (9, 0, 266), (15, 0, 270), (18, 0, 274), (21, 0, 278), (25, 0, 282), (28, 0, 290), (31, 4, 3), (33, 1, 384), (36, 0, 294), (40, 0, 298), (43, 0, 256), (47, 0, 260), (50, 0, 284), (53, 0, 300), (56, 0, 780), (59, 0, 784), (62, 1, 1665), (68, 1, 1666), (71, 1, 130), (75, 1, 132), (79, 1, 386), (83, 3, 1), (89, 1, 385), (93, 1, 1664), (96, 1, 138)]
def ax_r_2 : List (Nat × Nat × Int) := [(3, 3, 0), (9, 0, 518), (15, 0, 522), (18, 0, 526), (21, 0, 512), (25, 3, 1), (31, 1, 1665), (37, 0, 18)]
def ax_r_3 : List (Nat × Nat × Int) := [(3, 3, 0), (11, 0, 774), (15, 0, 778), (18, 0, 770), (21, 0, 780), (25, 0, 784), (28, 1, 388), (32, 1, 1666), (38, 1, 1665)]
def ax_r_4 : List (Nat × Nat × Int) := [(3, 3, 0), (9, 4, 0), (11, 0, 1026), (17, 0, 1038), (20, 4, 2), (22, 0, 1042), (26, 2, 0), (27, 2, 256), (28, 0, 1032), (32, 0, 1044), (35, 0, 1028), (38, 1, 2), (42, 1, 1666), (48, 1, 258)]
def ax_r_5 : List (Nat × Nat × Int) := [(3, 3, 0), (9, 0, 1286), (15, 0, 1290), (18, 0, 1282), (22, 1, 1920), (28, 0, 8), (34, 1, 136), (40, 1, 645), (44, 1, 647), (48, 0, 18), (51, 3, 1), (57, 0, 0), (60, 1, 4), (64, 1, 15), (67, 1, 14), (70, 1, 646), (74, 1, 1665), (80, 1, 1664), (83, 0, 294), (87, 1, 387), (93, 0, 4), (96, 1, 648), (100, 0, 26), (103, 0, 22), (106, 0, 266), (109, 0, 274), (112, 0, 298)]
def ax_r_6 : List (Nat × Nat × Int) := [(3, 3, 0), (9, 4, 1), (11, 2, 128), (12, 0, 1546), (18, 4, 7), (20, 2, 896), (21, 0, 1550), (25, 0, 1538), (29, 0, 1542), (32, 0, 294), (36, 0, 1554), (39, 1, 129), (42, 1, 1154), (47, 0, 2312), (51, 1, 772), (55, 1, 773), (58, 1, 776), (61, 1, 777), (64, 1, 1156), (68, 1, 133), (71, 1, 1155), (75, 0, 1792), (78, 1, 782), (81, 1, 130), (84, 1, 131), (88, 1, 1160), (91, 1, 771), (94, 1, 1158), (98, 0, 2324), (101, 0, 256), (104, 1, 1157), (107, 0, 260), (110, 1, 774), (113, 1, 775), (116, 0, 270), (120, 0, 274), (123, 1, 1159), (126, 0, 2321), (130, 1, 135), (134, 0, 278), (138, 2, 1322), (142, 0, 266), (145, 0, 284), (148, 0, 282), (151, 0, 2316), (154, 1, 132), (158, 0, 1559), (162, 1, 778), (165, 1, 780), (168, 1, 779), (172, 1, 386), (177, 1, 781), (180, 1, 783), (183, 1, 785), (186, 1, 784), (189, 1, 898), (192, 1, 786)]
def ax_r_7 : List (Nat × Nat × Int) := [(3, 3, 0), (9, 0, 1798), (15, 0, 1802), (18, 0, 1806), (21, 0, 1792), (25, 3, 1)]
def ax_r_8 : List (Nat × Nat × Int) := [(3, 3, 0), (9, 4, 0), (11, 2, 0), (12, 0, 2062), (18, 0, 2066), (21, 0, 2070), (25, 0, 2050), (29, 0, 2054), (32, 0, 2058), (36, 1, 1), (40, 0, 1792), (46, 0, 1798), (49, 1, 642), (55, 0, 1802), (58, 0, 1806), (61, 1, 7), (65, 1, 8), (69, 1, 18), (73, 1, 16), (77, 1, 2), (81, 1, 643), (85, 0, 18), (88, 1, 17), (91, 0, 26), (94, 0, 0), (97, 1, 4), (101, 1, 1031), (105, 1, 9), (108, 1, 11), (112, 0, 4), (115, 1, 13), (118, 0, 22), (121, 1, 1036), (125, 1, 259), (130, 1, 260), (134, 1, 1920), (140, 1, 1038), (143, 1, 1039), (147, 1, 1665), (153, 1, 23), (156, 1, 1045), (160, 1, 1046), (163, 1, 644), (166, 1, 1048), (170, 0, 2073), (174, 1, 1050), (177, 1, 1792), (182, 1, 25), (185, 1, 1052), (188, 1, 1051), (191, 5, 1103515245), (193, 5, 12345), (195, 5, 2147483648), (197, 5, 65536)]
def ax_r_9 : List (Nat × Nat × Int) := [(3, 3, 0), (9, 0, 2306), (15, 2, 1322), (19, 0, 2308), (23, 0, 2336), (26, 0, 2328), (29, 1, 1160), (32, 0, 2332), (35, 0, 2312), (38, 1, 1156), (42, 0, 2316), (45, 0, 2324), (48, 1, 1164), (51, 1, 1161), (54, 1, 1163), (58, 1, 1165), (61, 1, 1162), (64, 1, 1166), (67, 0, 2321), (71, 7, 1), (73, 3, 2), (77, 3, 3)]
def ax_r_10 : List (Nat × Nat × Int) := [(1, 3, 0), (7, 4, 9), (9, 2, 1152), (10, 0, 2562), (16, 4, 1), (18, 2, 128), (19, 0, 2570), (23, 4, 7), (25, 2, 896), (26, 0, 2574), (30, 4, 6), (32, 1, 768), (35, 0, 2566), (39, 4, 0), (41, 2, 0), (42, 0, 2578), (46, 4, 2), (48, 2, 256), (49, 0, 2582), (53, 4, 4), (55, 1, 512), (56, 0, 2586), (60, 4, 5), (62, 1, 640), (65, 0, 2590), (69, 4, 8), (71, 1, 1024), (74, 0, 2594), (78, 1, 129), (81, 1, 133), (84, 1, 1), (87, 1, 1153), (91, 0, 2308), (95, 1, 769), (99, 0, 1546), (102, 1, 134), (105, 0, 1792), (108, 1, 641), (111, 0, 512), (112, 1, 513), (113, 1, 770), (116, 0, 1550), (119, 1, 897), (122, 1, 5), (126, 0, 18), (130, 1, 6), (133, 0, 266), (136, 0, 22), (139, 0, 274), (142, 0, 26), (145, 1, 1322), (149, 1, 1321), (152, 1, 20), (156, 1, 514), (160, 1, 642), (164, 1, 515), (168, 1, 1025), (172, 1, 1026), (176, 1, 1027), (179, 1, 1028), (183, 1, 1029), (186, 1, 1030), (190, 1, 1032), (193, 1, 1033), (196, 1, 257), (199, 1, 1035), (202, 1, 1037), (205, 1, 137), (208, 1, 19), (211, 1, 21), (214, 1, 22), (217, 1, 24), (220, 1, 1040), (223, 1, 3), (226, 0, 0), (229, 1, 25), (232, 1, 1041), (235, 1, 1042), (238, 1, 1034), (241, 1, 26), (244, 1, 1043), (247, 1, 1044), (264, 1, 1049), (267, 1, 517), (271, 1, 516), (275, 0, 4), (278, 0, 8), (281, 1, 136), (284, 0, 12), (287, 1, 17), (290, 1, 16), (293, 0, 1032), (296, 1, 7), (299, 1, 8)]
def ax_r_11 : List (Nat × Nat × Int) := [(1, 0, 2816), (7, 1, 1410), (11, 0, 2824), (14, 0, 2822), (18, 3, 0), (24, 0, 2834), (27, 0, 2838), (30, 0, 2842), (34, 5, 5892639), (36, 5, 324772511113), (38, 5, 57), (40, 5, 23284001), (42, 5, 412126), (44, 5, 11301299), (46, 5, 33989699), (48, 5, 38271883), (50, 5, 6389093183), (52, 5, 325130), (54, 5, 1042489), (56, 5, 223095242), (58, 5, 108208), (60, 5, 30596128), (62, 5, 36440611), (64, 5, 6040476), (66, 5, 660195), (68, 5, 19741), (70, 5, 1891), (72, 5, 573), (74, 5, 1167207), (76, 5, 1167067), (78, 5, 1025867), (80, 5, 15248608), (82, 0, 2854), (85, 0, 2858), (88, 0, 2862), (91, 0, 2866), (94, 0, 2874), (97, 0, 2878), (100, 0, 2898), (103, 0, 2902), (106, 0, 2906), (109, 0, 2910), (112, 0, 2918), (116, 0, 2922), (119, 0, 2926), (122, 1, 1425), (126, 1, 1448), (129, 1, 1412), (133, 0, 2828), (136, 5, 37), (138, 1, 1414), (142, 1, 1413), (145, 5, 10), (147, 5, 48), (149, 1, 1415), (152, 0, 2844), (155, 0, 2848), (158, 1, 1418), (161, 1, 1417), (164, 1, 1419), (167, 1, 1422), (170, 1, 1423), (173, 1, 1426), (177, 1, 1428), (180, 0, 2884), (183, 0, 2880), (186, 1, 1430), (190, 1, 1431), (194, 1, 1416), (197, 0, 2868), (200, 0, 2888), (203, 1, 1434), (206, 1, 1435), (209, 1, 1420), (212, 1, 1429), (215, 1, 1427), (219, 1, 1436), (222, 0, 2892), (225, 1, 1439), (228, 1, 1438), (232, 1, 1432), (235, 1, 1440), (238, 1, 1441), (241, 1, 1421), (244, 1, 1442), (247, 1, 1443), (250, 1, 1445), (253, 1, 1451), (257, 1, 1452), (260, 1, 1450), (263, 1, 1447), (266, 0, 2912), (269, 1, 1446), (273, 1, 1453), (276, 1, 1455), (280, 1, 1458), (283, 1, 1444), (286, 1, 1464), (290, 1, 1465), (293, 1, 1457), (296, 1, 1466), (299, 1, 1469), (302, 1, 1456), (305, 1, 1454), (308, 1, 1424), (312, 1, 1449), (315, 1, 1459), (318, 1, 1460), (321, 1, 1461), (324, 1, 1462), (327, 1, 1463), (330, 1, 1467), (332, 1, 1468), (335, 1, 1481), (338, 1, 1470), (341, 1, 1483), (344, 1, 1484), (347, 1, 1489), (350, 1, 1501), (353, 5, 1000000), (355, 1, 1511), (359, 0, 2929), (363, 5, 1103515245), (365, 5, 12345), (367, 5, 2147483648), (369, 5, 65536), (371, 1, 1513), (374, 1, 1514), (377, 1, 1471)]
def ax_r_12 : List (Nat × Nat × Int) := [(8, 4, 10), (15, 1, 1280), (16, 4, 11), (18, 1, 1411), (19, 5, 4294967295), (21, 1, 1281), (25, 1, 1409), (26, 1, 1282), (30, 1, 1433), (31, 1, 1283), (34, 1, 1437), (35, 1, 1284), (39, 1, 1472), (40, 1, 1285), (44, 1, 1473), (45, 1, 1286), (48, 1, 1474), (49, 1, 1287), (52, 1, 1475), (53, 1, 1288), (57, 1, 1476), (58, 1, 1289), (62, 1, 1477), (63, 1, 1290), (67, 1, 1478), (68, 1, 1291), (71, 1, 1479), (72, 1, 1292), (75, 1, 1480), (76, 1, 1293), (79, 1, 1482), (80, 1, 1294), (83, 1, 1485), (84, 1, 1295), (87, 1, 1486), (88, 1, 1296), (91, 1, 1487), (92, 1, 1297), (95, 1, 1488), (96, 1, 1298), (99, 1, 1490), (100, 1, 1299), (103, 1, 1491), (104, 1, 1300), (107, 1, 1492), (108, 1, 1301), (112, 1, 1500), (113, 1, 1302), (116, 1, 1502), (117, 1, 1303), (120, 1, 1503), (121, 1, 1304), (124, 1, 1504), (125, 1, 1305), (128, 1, 1505), (129, 1, 1306), (132, 1, 1506), (133, 1, 1307), (136, 1, 1507), (137, 1, 1308), (140, 1, 1508), (141, 1, 1309), (144, 1, 1509), (145, 1, 1310), (148, 1, 1493), (149, 1, 1311), (152, 1, 1494), (153, 1, 1312), (156, 1, 1495), (157, 1, 1313), (160, 1, 1496), (161, 1, 1314), (164, 1, 1497), (165, 1, 1315), (168, 1, 1498), (169, 1, 1316), (172, 1, 1499), (173, 1, 1317), (177, 1, 1510), (178, 3, 4), (183, 1, 1512), (184, 1, 1408), (187, 1, 1318), (190, 1, 1515), (191, 1, 1319), (195, 1, 1516), (196, 1, 1320), (199, 1, 1517)]
def ax_r_13 : List (Nat × Nat × Int) := []
def ax_r_14 : List (Nat × Nat × Int) := [(265, 6, 1431655765), (266, 6, 858993459), (267, 6, 252645135)]
def ax_r_15 : List (Nat × Nat × Int) := []
def ax_res : Nat → List (Nat × Nat × Int) := fun c => match c with
  | 0 => ax_r_0
  | 1 => ax_r_1
  | 2 => ax_r_2
  | 3 => ax_r_3
  | 4 => ax_r_4
  | 5 => ax_r_5
  | 6 => ax_r_6
  | 7 => ax_r_7
  | 8 => ax_r_8
  | 9 => ax_r_9
  | 10 => ax_r_10
  | 11 => ax_r_11
  | 12 => ax_r_12
  | 13 => ax_r_13
  | 14 => ax_r_14
  | _ => ax_r_15
