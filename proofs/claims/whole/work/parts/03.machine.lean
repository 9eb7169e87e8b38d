/-! the small machine: values as the big one's, but a reference is a place among the cells made since the law's start; '.float j': a thing made before it (0 the script, 1 the words) -/
abbrev ax_E : Type := (Nat × vp_A) ⊕ (Nat × List Value)
abbrev ax_H : Type := Nat → ax_E
abbrev ax_Q : Type := Option Value → Nat → Nat → ax_H → Prop
abbrev ax_L : Type := List (Option Value)
abbrev ax_K : Type := ax_L → List Value → Nat → Nat → ax_H → Prop
/-- depth, room of cells, room of slots, method, code ahead, its place, locals, stack, cells, slots, heap, what is wanted at the end -/
abbrev ax_P : Type := Nat → Nat → Nat → Nat → List (Nat × Instr) → Nat → ax_L → List Value → Nat → Nat → ax_H → ax_Q → Prop
def ax_up (es : ax_H) (q : Nat) (e : ax_E) : ax_H := fun j => if j = q then e else es j
/-- where the script lies in the small heap -/
def ax_scr : Nat := 1000000
/-- how many cells the constructors make; what comes later is nobody's -/
def ax_NF : Nat := 178
def ax_al (n : Nat) : Nat := min n ax_NF
def ax_words : String := "cells courtier at loyal heat fades reads touch breathe fork turn change beat plain spoon child maid not and or wave warm time heart "
/-- a long whose second half is written over is gone -/
def ax_kl (o : Option Value) : Option Value := match o with
  | some (.long _) => none
  | o => o
def ax_st1 : ax_L → Nat → Value → ax_L
  | [], _, _ => []
  | _ :: t, 0, v => some v :: t
  | o :: t, 1, v => ax_kl o :: ax_st1 t 0 v
  | o :: t, i + 2, v => o :: ax_st1 t (i + 1) v
def ax_k2 : ax_L → ax_L
  | [] => []
  | _ :: t => none :: t
def ax_st2 : ax_L → Nat → Value → ax_L
  | [], _, _ => []
  | _ :: t, 0, v => some v :: ax_k2 t
  | o :: t, 1, v => ax_kl o :: ax_st2 t 0 v
  | o :: t, i + 2, v => o :: ax_st2 t (i + 1) v
def ax_ent : List Value → ax_L
  | [] => []
  | .long x :: t => some (.long x) :: none :: ax_ent t
  | .double _ :: t => none :: none :: ax_ent t
  | v :: t => some v :: ax_ent t
def ax_pad (ls : ax_L) (n : Nat) : ax_L := ls ++ List.replicate (n - ls.length) none
def ax_cat (st : List Value) : Nat := (st.map fun v => v.category).sum
def ax_cmp (c : Jvm.ClassFile.Cond) (x y : Int32) : Prop := match c with
  | .eq => x = y
  | .ne => ¬ x = y
  | .lt => x < y
  | .ge => y ≤ x
  | .gt => y < x
  | .le => x ≤ y
def ax_atag (t : ArrayType) : Nat := match t with
  | .int => 0
  | .byte => 1
  | .boolean => 2
  | .long => 3
  | _ => 9
def ax_acon (t : ArrayType) : (Nat → Int32) ⊕ (Nat → Int64) ⊕ (Nat → UInt32) ⊕ (Nat → UInt64) ⊕ (Nat → Option Nat) := match t with
  | .long => .inr (.inl fun _ => 0)
  | _ => .inl fun _ => 0
def ax_otag (c : Nat) : Nat := match c with
  | 0 => 4
  | 2 => 5
  | _ => 9
/-- a value of a kind of field: 0 int, 1 long, 2 a reference, 3 boolean -/
def ax_fit (k : Nat) (v : Value) : Prop := match k, v with
  | 0, .int _ => True
  | 1, .long _ => True
  | 2, .ref _ => True
  | 3, .int x => x = 0 ∨ x = 1
  | _, _ => False
def ax_rtok (t : Option FieldType) (v : Value) : Prop := match t, v with
  | some .int, .int _ => True
  | some .boolean, .int x => x = 0 ∨ x = 1
  | _, _ => False
/-- the numbers of fields of a class -/
def ax_N (c : Nat) : Nat := match ax_cl[c]? with
  | some r => r.2.2
  | none => 0
def ax_df (c : Nat) : List Value := (List.range (ax_N c)).map fun k => defaultValue (ax_ty c k)
def ax_ret (M : Nat) : Option FieldType := match ax_m M with
  | some m => m.2.2.2.1
  | none => none
def ax_J (P : ax_P) (d nb sb M : Nat) (t : Int) (ls : ax_L) (st : List Value) (n sl : Nat) (es : ax_H) (Q : ax_Q) : Prop :=
  ∃ code, ax_blk M t.toNat = some code ∧ P d nb sb M code t.toNat ls st n sl es Q
def ax_C (P : ax_P) (d nb sb M : Nat) (args : List Value) (n sl : Nat) (es : ax_H) (K : Option Value → Nat → Nat → ax_H → Prop) : Prop :=
  ∃ (d' nb' sb' : Nat) (R : ax_Q) (m : ax_M) (code : List (Nat × Instr)), d = d' + 1 ∧ nb' ≤ nb ∧ sb' ≤ sb ∧ n ≤ nb' ∧ sl ≤ sb' ∧ ax_m M = some m ∧ ax_blk M 0 = some code ∧ (ax_ent args).length ≤ m.2.2.1 ∧
    P d' nb' sb' M code 0 (ax_pad (ax_ent args) m.2.2.1) [] n sl es R ∧ ∀ r n' sl' es', R r n' sl' es' → n' = nb' ∧ sl' = sb' ∧ K r n' sl' es'
/-- the receiver of a virtual call is an object of the class -/
def ax_rcv (n : Nat) (es : ax_H) (c : Nat) (args : List Value) : Prop := match args with
  | .ref q :: _ => q < ax_al n ∧ (match es q with
    | .inr (c', _) => c' = c
    | .inl _ => False)
  | _ => False
def ax_rcv2 (args : List Value) : Prop := match args with
  | .ref _ :: _ => True
  | _ => False
def ax_inv (P : ax_P) (d nb sb M c : Nat) (st : List Value) (n sl : Nat) (es : ax_H) (K : List Value → Nat → Nat → ax_H → Prop) : Prop :=
  c / 4 ≤ st.length ∧ ax_cat (st.drop (c / 4)) ≤ 8 ∧ (c % 4 = 1 → ax_rcv n es (M / 128) (st.take (c / 4)).reverse) ∧ (c % 4 = 2 → ax_rcv2 (st.take (c / 4)).reverse) ∧
    ax_C P d nb sb M (st.take (c / 4)).reverse n sl es fun r n' sl' es' => K (r.toList ++ st.drop (c / 4)) n' sl' es'
def ax_ii (op : Int32 → Int32 → Int32) (K : List Value → Prop) (st : List Value) : Prop := match st with
  | .int y :: .int x :: st => K (.int (op x y) :: st)
  | _ => False
def ax_ll (op : Int64 → Int64 → Int64) (K : List Value → Prop) (st : List Value) : Prop := match st with
  | .long y :: .long x :: st => K (.long (op x y) :: st)
  | _ => False
def ax_li (op : Int64 → Int32 → Int64) (K : List Value → Prop) (st : List Value) : Prop := match st with
  | .int y :: .long x :: st => K (.long (op x y) :: st)
  | _ => False
def ax_iushr (x y : Int32) : Int32 := (x.toUInt32 >>> (y.toUInt32 &&& Int32.toUInt32 31)).toInt32
def ax_lushr (x : Int64) (y : Int32) : Int64 := (x.toUInt64 >>> (y.toInt64.toUInt64 &&& Int64.toUInt64 63)).toInt64
def ax_lookup (ps : List (Int × Int)) (dflt x : Int) : Int := match ps with
  | [] => dflt
  | p :: ps => if p.1 = x then p.2 else ax_lookup ps dflt x
def ax_pay (own other both loses gets : Int32) : Int32 := if own = 1 then (if other = 1 then both else -loses) else (if other = 1 then gets else 0)
def ax_isRest (f s b l g : Int32) : Bool := decide (ax_pay (1 - f) s b l g ≤ ax_pay f s b l g) && decide (ax_pay (1 - s) f b l g ≤ ax_pay s f b l g)
def ax_rfind (b l g what : Int32) : List (Int32 × Int32 × Int32) → Int32 → Int32 ⊕ Int32
  | [], found => .inr found
  | (p, f, s) :: t, found => if ax_isRest f s b l g = true then (if found = what then .inl p else ax_rfind b l g what t (found + 1)) else ax_rfind b l g what t found
/-- what rests answers; none: it throws -/
def ax_rests (b l g what : Int32) : Option Int32 := if (0 ≤ b ∧ b ≤ 9) ∧ (0 ≤ l ∧ l ≤ 9) ∧ (0 ≤ g ∧ g ≤ 9) ∧ ¬ what < -1 then (match ax_rfind b l g what [(0, 0, 0), (1, 0, 1), (2, 1, 0), (3, 1, 1)] 0 with
  | .inl p => some p
  | .inr found => if what = -1 then some found else none) else none
/-- builtin calls: 0 Object's constructor, 1 arraycopy, 2 the words' length, 3 a sign of the words, 4 the law's rests -/
def ax_bi (d nb sb : Nat) (b : Nat) (ls : ax_L) (st : List Value) (n sl : Nat) (es : ax_H) (K : ax_K) : Prop := match b with
  | 0 => match st with
    | .ref _ :: st => 1 ≤ d ∧ ax_cat st ≤ 8 ∧ K ls st n sl es
    | _ => False
  | 1 => match st with
    | .int c :: .int dp :: .ref b :: .int sp :: .ref a :: st => 1 ≤ d ∧ ax_cat st ≤ 8 ∧ a < ax_al n ∧ b < ax_al n ∧ ¬ sp < 0 ∧ ¬ dp < 0 ∧ ¬ c < 0 ∧ (match es a, es b with
      | .inl (0, n0, .inl f), .inl (0, n1, .inl g) => sp.toNatClampNeg + c.toNatClampNeg ≤ n0 ∧ dp.toNatClampNeg + c.toNatClampNeg ≤ n1 ∧ K ls st n sl (ax_up es b (.inl (0, n1, .inl (va_cpy f g sp.toNatClampNeg dp.toNatClampNeg c.toNatClampNeg))))
      | .inl (3, n0, .inr (.inl f)), .inl (3, n1, .inr (.inl g)) => sp.toNatClampNeg + c.toNatClampNeg ≤ n0 ∧ dp.toNatClampNeg + c.toNatClampNeg ≤ n1 ∧ K ls st n sl (ax_up es b (.inl (3, n1, .inr (.inl (va_cpy f g sp.toNatClampNeg dp.toNatClampNeg c.toNatClampNeg)))))
      | _, _ => False)
    | _ => False
  | 2 => match st with
    | .float 1 :: st => 8 ≤ d ∧ ax_cat st ≤ 8 ∧ K ls (.int (Int32.ofNat ax_words.length) :: st) n sl es
    | _ => False
  | 3 => match st with
    | .int i :: .float 1 :: st => 8 ≤ d ∧ ax_cat st ≤ 8 ∧ vp_in i ax_words.length ∧ K ls (.int (Int32.ofNat (ax_words.toList.getD i.toNatClampNeg ' ').toNat) :: st) n sl es
    | _ => False
  | 4 => match st with
    | .ref o :: .int p3 :: .int p2 :: .int p1 :: .int p0 :: .ref x :: st => 12 ≤ d ∧ ax_cat st ≤ 8 ∧ o < ax_al n ∧ x < ax_al n ∧ (match es x with
      | .inr (10, _) => (match es o with
        | .inl (3, 1, .inr (.inl f)) => (match ax_rests p0 p1 p2 p3 with
          | some v => K ls (.int 0 :: st) n sl (ax_up es o (.inl (3, 1, .inr (.inl (vp_updL f 0 v.toInt64)))))
          | none => ax_NF ≤ n ∧ n + 1 ≤ nb ∧ sl + 6 ≤ sb ∧ K ls (.int 1 :: st) (n + 1) (sl + 6) es)
        | _ => False)
      | _ => False)
    | _ => False
  | _ => False
def ax_I (P : ax_P) (d nb sb M : Nat) (i : Instr) (ls : ax_L) (st : List Value) (n sl : Nat) (es : ax_H) (Q : ax_Q) (K : ax_K) : Prop := match i with
  | .iconst v => K ls (.int (Int32.ofInt v) :: st) n sl es
  | .goto_w v => K ls (.long (Int64.ofInt v) :: st) n sl es
  | .ldc j => K ls (.float (UInt32.ofNat j) :: st) n sl es
  | .iload k => (match ls[k]? with
    | some (some (.int x)) => K ls (.int x :: st) n sl es
    | _ => False)
  | .lload k => (match ls[k]? with
    | some (some (.long x)) => K ls (.long x :: st) n sl es
    | _ => False)
  | .aload k => (match ls[k]? with
    | some (some (.ref x)) => K ls (.ref x :: st) n sl es
    | some (some (.float x)) => K ls (.float x :: st) n sl es
    | _ => False)
  | .istore k => (match st with
    | .int x :: st => k < ls.length ∧ K (ax_st1 ls k (.int x)) st n sl es
    | _ => False)
  | .lstore k => (match st with
    | .long x :: st => k + 1 < ls.length ∧ K (ax_st2 ls k (.long x)) st n sl es
    | _ => False)
  | .astore k => (match st with
    | .ref x :: st => k < ls.length ∧ K (ax_st1 ls k (.ref x)) st n sl es
    | _ => False)
  | .iinc k c => (match ls[k]? with
    | some (some (.int x)) => K (ax_st1 ls k (.int (x + Int32.ofInt c))) st n sl es
    | _ => False)
  | .iadd => ax_ii (· + ·) (fun st => K ls st n sl es) st
  | .isub => ax_ii (· - ·) (fun st => K ls st n sl es) st
  | .imul => ax_ii (· * ·) (fun st => K ls st n sl es) st
  | .iand => ax_ii (· &&& ·) (fun st => K ls st n sl es) st
  | .ior => ax_ii (· ||| ·) (fun st => K ls st n sl es) st
  | .ixor => ax_ii (· ^^^ ·) (fun st => K ls st n sl es) st
  | .ishl => ax_ii (fun x y => x <<< (y &&& 31)) (fun st => K ls st n sl es) st
  | .ishr => ax_ii (fun x y => x >>> (y &&& 31)) (fun st => K ls st n sl es) st
  | .iushr => ax_ii ax_iushr (fun st => K ls st n sl es) st
  | .idiv => (match st with
    | .int y :: .int x :: st => ¬ y = 0 ∧ K ls (.int (x / y) :: st) n sl es
    | _ => False)
  | .irem => (match st with
    | .int y :: .int x :: st => ¬ y = 0 ∧ K ls (.int (x - x / y * y) :: st) n sl es
    | _ => False)
  | .ineg => (match st with
    | .int x :: st => K ls (.int (-x) :: st) n sl es
    | _ => False)
  | .ladd => ax_ll (· + ·) (fun st => K ls st n sl es) st
  | .lsub => ax_ll (· - ·) (fun st => K ls st n sl es) st
  | .lmul => ax_ll (· * ·) (fun st => K ls st n sl es) st
  | .land => ax_ll (· &&& ·) (fun st => K ls st n sl es) st
  | .lor => ax_ll (· ||| ·) (fun st => K ls st n sl es) st
  | .ldiv => (match st with
    | .long y :: .long x :: st => ¬ y = 0 ∧ K ls (.long (x / y) :: st) n sl es
    | _ => False)
  | .lrem => (match st with
    | .long y :: .long x :: st => ¬ y = 0 ∧ K ls (.long (x - x / y * y) :: st) n sl es
    | _ => False)
  | .lshl => ax_li (fun x y => x <<< (y.toInt64 &&& 63)) (fun st => K ls st n sl es) st
  | .lshr => ax_li (fun x y => x >>> (y.toInt64 &&& 63)) (fun st => K ls st n sl es) st
  | .lushr => ax_li ax_lushr (fun st => K ls st n sl es) st
  | .lcmp => (match st with
    | .long y :: .long x :: st => K ls (.int (lg_cmp x y) :: st) n sl es
    | _ => False)
  | .i2l => (match st with
    | .int x :: st => K ls (.long x.toInt64 :: st) n sl es
    | _ => False)
  | .l2i => (match st with
    | .long x :: st => K ls (.int x.toInt32 :: st) n sl es
    | _ => False)
  | .i2b => (match st with
    | .int x :: st => K ls (.int x.toInt8.toInt32 :: st) n sl es
    | _ => False)
  | .dup => (match st with
    | v :: st => v.category = 1 ∧ K ls (v :: v :: st) n sl es
    | _ => False)
  | .dup2 => (match st with
    | v :: w :: st => v.category = 1 ∧ w.category = 1 ∧ K ls (v :: w :: v :: w :: st) n sl es
    | _ => False)
  | .pop => (match st with
    | v :: st => v.category = 1 ∧ K ls st n sl es
    | _ => False)
  | .ifCond c t => (match st with
    | .int x :: st => (ax_cmp c x 0 → ax_J P d nb sb M t ls st n sl es Q) ∧ (¬ ax_cmp c x 0 → K ls st n sl es)
    | _ => False)
  | .if_icmp c t => (match st with
    | .int y :: .int x :: st => (ax_cmp c x y → ax_J P d nb sb M t ls st n sl es Q) ∧ (¬ ax_cmp c x y → K ls st n sl es)
    | _ => False)
  | .goto t => ax_J P d nb sb M t ls st n sl es Q
  | .tableswitch dflt lo hi offs => (match st with
    | .int x :: st => ((x.toInt < lo ∨ hi < x.toInt) → ax_J P d nb sb M dflt ls st n sl es Q) ∧ (¬ (x.toInt < lo ∨ hi < x.toInt) → (match offs[(x.toInt - lo).toNat]? with
      | some t => ax_J P d nb sb M t ls st n sl es Q
      | none => False))
    | _ => False)
  | .lookupswitch dflt ps => (match st with
    | .int x :: st => ax_J P d nb sb M (ax_lookup ps.toList dflt x.toInt) ls st n sl es Q
    | _ => False)
  | .getfield e => (match st with
    | .ref q :: st => q < ax_al n ∧ (match es q with
      | .inr (c, fs) => c = e / 256 ∧ (match fs[e / 4 % 64]? with
        | some v => K ls (v :: st) n sl es
        | none => False)
      | .inl _ => False)
    | _ => False)
  | .putfield e => (match st with
    | v :: .ref q :: st => q < ax_al n ∧ (match es q with
      | .inr (c, fs) => c = e / 256 ∧ e / 4 % 64 < fs.length ∧ ax_fit (e % 4) v ∧ K ls st n sl (ax_up es q (.inr (c, fs.set (e / 4 % 64) v)))
      | .inl _ => False)
    | _ => False)
  | .putstatic e => (match st with
    | v :: .ref q :: st => q < ax_al n ∧ (match es q with
      | .inr (c, fs) => c = e / 256 ∧ e / 4 % 64 < fs.length ∧ ax_fit (e % 4) v ∧ K ls st n sl (ax_up es q (.inr (c, fs.set (e / 4 % 64) v)))
      | .inl _ => False)
    | _ => False)
  | .iaload => (match st with
    | .int i :: .ref q :: st => q < ax_al n ∧ (match es q with
      | .inl (0, n0, .inl f) => vp_in i n0 ∧ K ls (.int (f i.toNatClampNeg) :: st) n sl es
      | _ => False)
    | .int i :: .float 0 :: st => (match es ax_scr with
      | .inl (0, n0, .inl f) => vp_in i n0 ∧ K ls (.int (f i.toNatClampNeg) :: st) n sl es
      | _ => False)
    | _ => False)
  | .baload => (match st with
    | .int i :: .ref q :: st => q < ax_al n ∧ (match es q with
      | .inl (1, n0, .inl f) => vp_in i n0 ∧ K ls (.int (f i.toNatClampNeg) :: st) n sl es
      | .inl (2, n0, .inl f) => vp_in i n0 ∧ K ls (.int (f i.toNatClampNeg) :: st) n sl es
      | _ => False)
    | _ => False)
  | .laload => (match st with
    | .int i :: .ref q :: st => q < ax_al n ∧ (match es q with
      | .inl (3, n0, .inr (.inl f)) => vp_in i n0 ∧ K ls (.long (f i.toNatClampNeg) :: st) n sl es
      | _ => False)
    | _ => False)
  | .aaload => (match st with
    | .int i :: .ref q :: st => q < ax_al n ∧ (match es q with
      | .inl (t, n0, .inr (.inr (.inr (.inr f)))) => (t = 4 ∨ t = 5) ∧ vp_in i n0 ∧ (match f i.toNatClampNeg with
        | some k => K ls (.ref k :: st) n sl es
        | none => False)
      | _ => False)
    | _ => False)
  | .iastore => (match st with
    | .int x :: .int i :: .ref q :: st => q < ax_al n ∧ (match es q with
      | .inl (0, n0, .inl f) => vp_in i n0 ∧ K ls st n sl (ax_up es q (.inl (0, n0, .inl (upd f i.toNatClampNeg x))))
      | _ => False)
    | _ => False)
  | .bastore => (match st with
    | .int x :: .int i :: .ref q :: st => q < ax_al n ∧ (match es q with
      | .inl (1, n0, .inl f) => vp_in i n0 ∧ K ls st n sl (ax_up es q (.inl (1, n0, .inl (upd f i.toNatClampNeg (vp_nar .byte x)))))
      | .inl (2, n0, .inl f) => vp_in i n0 ∧ K ls st n sl (ax_up es q (.inl (2, n0, .inl (upd f i.toNatClampNeg (vp_nar .boolean x)))))
      | _ => False)
    | _ => False)
  | .lastore => (match st with
    | .long x :: .int i :: .ref q :: st => q < ax_al n ∧ (match es q with
      | .inl (3, n0, .inr (.inl f)) => vp_in i n0 ∧ K ls st n sl (ax_up es q (.inl (3, n0, .inr (.inl (vp_updL f i.toNatClampNeg x)))))
      | _ => False)
    | _ => False)
  | .aastore => (match st with
    | .ref v :: .int i :: .ref q :: st => q < ax_al n ∧ v < ax_al n ∧ (match es q, es v with
      | .inl (4, n0, .inr (.inr (.inr (.inr f)))), .inr (0, _) => vp_in i n0 ∧ K ls st n sl (ax_up es q (.inl (4, n0, .inr (.inr (.inr (.inr (va_up f i.toNatClampNeg (some v))))))))
      | .inl (5, n0, .inr (.inr (.inr (.inr f)))), .inr (2, _) => vp_in i n0 ∧ K ls st n sl (ax_up es q (.inl (5, n0, .inr (.inr (.inr (.inr (va_up f i.toNatClampNeg (some v))))))))
      | _, _ => False)
    | _ => False)
  | .arraylength => (match st with
    | .ref q :: st => q < ax_al n ∧ (match es q with
      | .inl (t, n0, _) => t < 6 ∧ K ls (.int (Int32.ofNat n0) :: st) n sl es
      | _ => False)
    | .float 0 :: st => (match es ax_scr with
      | .inl (0, n0, .inl _) => K ls (.int (Int32.ofNat n0) :: st) n sl es
      | _ => False)
    | _ => False)
  | .newarray t => (match st with
    | .int c :: st => n + 1 ≤ ax_NF ∧ n + 1 ≤ nb ∧ sl + c.toNatClampNeg ≤ sb ∧ ¬ c < 0 ∧ c.toNatClampNeg ≤ 10000 ∧ ax_atag t < 9 ∧ K ls (.ref n :: st) (n + 1) (sl + c.toNatClampNeg) (ax_up es n (.inl (ax_atag t, c.toNatClampNeg, ax_acon t)))
    | _ => False)
  | .anewarray k => (match st with
    | .int c :: st => n + 1 ≤ ax_NF ∧ n + 1 ≤ nb ∧ sl + c.toNatClampNeg ≤ sb ∧ ¬ c < 0 ∧ c.toNatClampNeg ≤ 10000 ∧ ax_otag k < 9 ∧ K ls (.ref n :: st) (n + 1) (sl + c.toNatClampNeg) (ax_up es n (.inl (ax_otag k, c.toNatClampNeg, .inr (.inr (.inr (.inr fun _ => none))))))
    | _ => False)
  | .new k => n + 1 ≤ ax_NF ∧ n + 1 ≤ nb ∧ sl + ax_N k ≤ sb ∧ K ls (.ref n :: st) (n + 1) (sl + ax_N k) (ax_up es n (.inr (k, ax_df k)))
  | .invokeinterface k c => ax_inv P d nb sb k c st n sl es (K ls)
  | .invokedynamic b => ax_bi d nb sb b ls st n sl es K
  | .ireturn => (match st with
    | [v] => ax_rtok (ax_ret M) v ∧ Q (some v) n sl es
    | _ => False)
  | .return_ => (match st with
    | [] => ax_ret M = none ∧ Q none n sl es
    | _ => False)
  | .areturn => (match st, ax_ret M with
    | [.ref k], some (.object _) => Q (some (.ref k)) n sl es
    | _, _ => False)
  | _ => False
def ax_F (P : ax_P) : ax_P := fun d nb sb M code pc ls st n sl es Q => match code with
  | [] => ax_J P d nb sb M (Int.ofNat pc) ls st n sl es Q
  | (len, i) :: rest => ax_I P d nb sb M i ls st n sl es Q fun ls st n sl es => P d nb sb M rest (pc + len) ls st n sl es Q
/-- the least of what is closed under the steps -/
def ax_W : ax_P := fun d nb sb M code pc ls st n sl es Q => ∀ P : ax_P, (∀ d nb sb M code pc ls st n sl es Q, ax_F P d nb sb M code pc ls st n sl es Q → P d nb sb M code pc ls st n sl es Q) → P d nb sb M code pc ls st n sl es Q
