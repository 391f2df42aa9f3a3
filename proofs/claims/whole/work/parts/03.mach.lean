/-! ===== the machine of pictures: locals, stack and heap as plain values; addresses are small numbers (0: the script; 1 and on: what was made, as it came) ===== -/
/-- a cell: an array (number of its type, length, contents) or an object (number of its class, fields) -/
abbrev AC : Type := (Nat × vp_A) ⊕ (Nat × List Value)
/-- a heap: the next address, the slots so far, the cells -/
abbrev AH : Type := Nat × Nat × (Nat → Option AC)
abbrev mC (M : MI) : Nat := M.1
abbrev mY (M : MI) : MethodName := M.2.1
abbrev mB (M : MI) : ByteArray := M.2.2.1
abbrev mL (M : MI) : Nat := M.2.2.2.1
abbrev mR (M : MI) : Option FieldType := M.2.2.2.2.1
abbrev mP (M : MI) : Nat := M.2.2.2.2.2.1
abbrev mF (M : MI) : Nat := M.2.2.2.2.2.2.1
abbrev mW (M : MI) : Nat := M.2.2.2.2.2.2.2
abbrev mK (M : MI) (i : Nat) : Nat × Nat := (mC M, i)
def tyN (t : Nat) : FieldType := match t with
  | 0 => .int
  | 1 => .long
  | 2 => .boolean
  | 3 => .array .long
  | 4 => .object "CadenzaEnds$Part"
  | _ => .object "CadenzaEnds$Agreed"
def tyF (ci : Nat) : Nat → FieldType := match ci with
  | 0 => tyX0
  | 1 => tyX1
  | 2 => tyX2
  | 3 => tyX3
  | 4 => tyX4
  | 5 => tyX5
  | 6 => tyX6
  | 7 => tyX7
  | 8 => tyX8
  | _ => tyX9
def tbF (ci : Nat) : u_T := match ci with
  | 0 => TX0
  | 1 => TX1
  | 2 => TX2
  | 3 => TX3
  | 4 => TX4
  | 5 => TX5
  | 6 => TX6
  | 7 => TX7
  | 8 => TX8
  | _ => TX9
def nmF (ci : Nat) : Nat := match ci with
  | 0 => 11
  | 1 => 3
  | 2 => 5
  | 3 => 3
  | 4 => 7
  | 5 => 7
  | 6 => 5
  | 7 => 8
  | 8 => 9
  | _ => 40
def hup (h : AH) (a : Nat) (c : AC) : AH := (h.1, h.2.1, fun x => if x = a then some c else h.2.2 x)
def hnew (h : AH) (n : Nat) (c : AC) : AH := (h.1 + 1, h.2.1 + n, fun x => if x = h.1 then some c else h.2.2 x)
def inb (i : Int32) (n : Nat) : Bool := decide (¬ (i < 0 ∨ n ≤ i.toNatClampNeg))
abbrev iA (n : Nat) (f : Nat → Int32) : AC := .inl (0, n, .inl f)
abbrev jA (n : Nat) (f : Nat → Int64) : AC := .inl (1, n, .inr (.inl f))
abbrev zA (n : Nat) (f : Nat → Int32) : AC := .inl (2, n, .inl f)
abbrev rA (t n : Nat) (f : Nat → Option Nat) : AC := .inl (t, n, .inr (.inr (.inr (.inr f))))
abbrev oB (ci : Nat) (fs : List Value) : AC := .inr (ci, fs)
def gF (h : AH) (a ci k : Nat) : Option Value := match h.2.2 a with
  | some (.inr q) => if q.1 = ci then q.2[k]? else none
  | _ => none
def pF (h : AH) (a ci k : Nat) (v : Value) : Option AH := match h.2.2 a with
  | some (.inr q) => if q.1 = ci ∧ k < q.2.length then some (hup h a (.inr (ci, q.2.set k v))) else none
  | _ => none
def gI (t : Nat) (h : AH) (a : Nat) (i : Int32) : Option Int32 := match h.2.2 a with
  | some (.inl (t', n, .inl f)) => if t' = t ∧ inb i n = true then some (f i.toNatClampNeg) else none
  | _ => none
def pI (t : Nat) (h : AH) (a : Nat) (i : Int32) (x : Int32) : Option AH := match h.2.2 a with
  | some (.inl (t', n, .inl f)) => if t' = t ∧ inb i n = true ∧ a ≠ 0 then some (hup h a (.inl (t, n, .inl (upd f i.toNatClampNeg x)))) else none
  | _ => none
def gJ (h : AH) (a : Nat) (i : Int32) : Option Int64 := match h.2.2 a with
  | some (.inl (t', n, .inr (.inl f))) => if t' = 1 ∧ inb i n = true ∧ a ≠ 0 then some (f i.toNatClampNeg) else none
  | _ => none
def pJ (h : AH) (a : Nat) (i : Int32) (x : Int64) : Option AH := match h.2.2 a with
  | some (.inl (t', n, .inr (.inl f))) => if t' = 1 ∧ inb i n = true ∧ a ≠ 0 then some (hup h a (.inl (1, n, .inr (.inl (vp_updL f i.toNatClampNeg x))))) else none
  | _ => none
def gR (h : AH) (a : Nat) (i : Int32) : Option Nat := match h.2.2 a with
  | some (.inl (t', n, .inr (.inr (.inr (.inr f))))) => if (t' = 3 ∨ t' = 4 ∨ t' = 5) ∧ inb i n = true ∧ a ≠ 0 then f i.toNatClampNeg else none
  | _ => none
def okR (t : Nat) (o : Option AC) : Bool := match o with
  | some (.inr q) => (t == 4 && q.1 == 6) || (t == 5 && q.1 == 0)
  | _ => false
def pR (h : AH) (a : Nat) (i : Int32) (x : Nat) : Option AH := match h.2.2 a with
  | some (.inl (t', n, .inr (.inr (.inr (.inr f))))) => if okR t' (h.2.2 x) = true ∧ inb i n = true ∧ a ≠ 0 then some (hup h a (.inl (t', n, .inr (.inr (.inr (.inr (va_up f i.toNatClampNeg (some x)))))))) else none
  | _ => none
def gN (h : AH) (a : Nat) : Option Nat := match h.2.2 a with
  | some (.inl (_, n, _)) => some n
  | _ => none
/-! one instruction -/
abbrev LSt : Type := List Value × List Value
def ldI (k : Nat) (L st : List Value) : Option LSt := match L[k]? with
  | some (.int x) => some (L, .int x :: st)
  | _ => none
def ldJ (k : Nat) (L st : List Value) : Option LSt := match L[k]? with
  | some (.long x) => some (L, .long x :: st)
  | _ => none
def ldA (k : Nat) (L st : List Value) : Option LSt := match L[k]? with
  | some (.ref x) => some (L, .ref x :: st)
  | _ => none
def catP (L : List Value) (k : Nat) : Bool := match k with
  | 0 => true
  | j + 1 => match L[j]? with
    | some v => v.category == 1
    | none => true
def st1 (k : Nat) (v : Value) (L st : List Value) : Option LSt := if k < L.length ∧ catP L k = true then some (L.set k v, st) else none
def st2 (k : Nat) (v : Value) (L st : List Value) : Option LSt := if k + 1 < L.length ∧ catP L k = true then some ((L.set k v).set (k + 1) .null, st) else none
def stI (k : Nat) (L st : List Value) : Option LSt := match st with
  | .int x :: r => st1 k (.int x) L r
  | _ => none
def stJ (k : Nat) (L st : List Value) : Option LSt := match st with
  | .long x :: r => st2 k (.long x) L r
  | _ => none
def stA (k : Nat) (L st : List Value) : Option LSt := match st with
  | .ref x :: r => st1 k (.ref x) L r
  | _ => none
def i2 (f : Int32 → Int32 → Int32) (L st : List Value) : Option LSt := match st with
  | .int y :: .int x :: r => some (L, .int (f x y) :: r)
  | _ => none
def j2 (f : Int64 → Int64 → Int64) (L st : List Value) : Option LSt := match st with
  | .long y :: .long x :: r => some (L, .long (f x y) :: r)
  | _ => none
def i2d (f : Int32 → Int32 → Int32) (L st : List Value) : Option LSt := match st with
  | .int y :: .int x :: r => if y = 0 then none else some (L, .int (f x y) :: r)
  | _ => none
def j2d (f : Int64 → Int64 → Int64) (L st : List Value) : Option LSt := match st with
  | .long y :: .long x :: r => if y = 0 then none else some (L, .long (f x y) :: r)
  | _ => none
def sCmp (L st : List Value) : Option LSt := match st with
  | .long y :: .long x :: r => some (L, .int (lg_cmp x y) :: r)
  | _ => none
def sI2l (L st : List Value) : Option LSt := match st with
  | .int x :: r => some (L, .long x.toInt64 :: r)
  | _ => none
def sL2i (L st : List Value) : Option LSt := match st with
  | .long x :: r => some (L, .int x.toInt32 :: r)
  | _ => none
def sDup (L st : List Value) : Option LSt := match st with
  | v :: r => if v.category = 1 then some (L, v :: v :: r) else none
  | _ => none
def sDup2 (L st : List Value) : Option LSt := match st with
  | va :: vb :: r => if va.category = 1 ∧ vb.category = 1 then some (L, va :: vb :: va :: vb :: r) else none
  | _ => none
def s1 (ins : Instr) (L st : List Value) : Option LSt := match ins with
  | .iconst n => some (L, .int (Int32.ofInt n) :: st)
  | .lconst n => some (L, .long (Int64.ofNat (n : Nat)) :: st)
  | .iload_n k => ldI k L st
  | .lload_n k => ldJ k L st
  | .aload_n k => ldA k L st
  | .istore_n k => stI k L st
  | .lstore_n k => stJ k L st
  | .astore_n k => stA k L st
  | .iadd => i2 (fun x y => x + y) L st
  | .isub => i2 (fun x y => x - y) L st
  | .imul => i2 (fun x y => x * y) L st
  | .iand => i2 (fun x y => x &&& y) L st
  | .ixor => i2 (fun x y => x ^^^ y) L st
  | .idiv => i2d (fun x y => x / y) L st
  | .irem => i2d (fun x y => x - x / y * y) L st
  | .ishl => i2 (fun x y => x <<< (y &&& 31)) L st
  | .ishr => i2 (fun x y => x >>> (y &&& 31)) L st
  | .iushr => i2 (fun x y => (x.toUInt32 >>> (y.toUInt32 &&& Int32.toUInt32 31)).toInt32) L st
  | .ladd => j2 (fun x y => x + y) L st
  | .lsub => j2 (fun x y => x - y) L st
  | .lmul => j2 (fun x y => x * y) L st
  | .land => j2 (fun x y => x &&& y) L st
  | .ldiv => j2d (fun x y => x / y) L st
  | .lrem => j2d (fun x y => x - x / y * y) L st
  | .lcmp => sCmp L st
  | .i2l => sI2l L st
  | .l2i => sL2i L st
  | .dup => sDup L st
  | .dup2 => sDup2 L st
  | _ => none
def s2 (M : MI) (ins : Instr) (L st : List Value) : Option LSt := match ins with
  | .bipush n => some (L, .int (Int8.ofInt n).toInt32 :: st)
  | .ldc i => (iTab.lookup (mK M i)).map (fun v => (L, .int v :: st))
  | .iload k => ldI k L st
  | .lload k => ldJ k L st
  | .aload k => ldA k L st
  | .istore k => stI k L st
  | .lstore k => stJ k L st
  | .astore k => stA k L st
  | _ => none
def sInc (k : Nat) (n : Int) (L st : List Value) : Option LSt := match L[k]? with
  | some (.int x) => st1 k (.int (x + Int32.ofInt n)) L st
  | _ => none
def s3 (M : MI) (ins : Instr) (L st : List Value) : Option LSt := match ins with
  | .sipush n => some (L, .int (Int16.ofInt n).toInt32 :: st)
  | .ldc_w i => (iTab.lookup (mK M i)).map (fun v => (L, .int v :: st))
  | .ldc2_w i => (lTab.lookup (mK M i)).map (fun v => (L, .long v :: st))
  | .iinc k n => sInc k n L st
  | _ => none
def icB (c : Jvm.ClassFile.Cond) (x y : Int32) : Bool := match c with
  | .eq => decide (x = y)
  | .ne => decide (¬ x = y)
  | .lt => decide (x < y)
  | .ge => decide (y ≤ x)
  | .gt => decide (y < x)
  | .le => decide (x ≤ y)
def jmp (pc : Nat) (off : Int) (st : List Value) : Option (Nat × List Value) := if 0 ≤ (pc : Int) + off then some (((pc : Int) + off).toNat, st) else none
def brc (t : Bool) (pc : Nat) (off : Int) (st : List Value) : Option (Nat × List Value) := if 0 ≤ (pc : Int) + off then some (if t = true then ((pc : Int) + off).toNat else pc + 3, st) else none
def br (ins : Instr) (pc : Nat) (st : List Value) : Option (Nat × List Value) := match ins with
  | .goto off => jmp pc off st
  | .ifCond c off => match st with
    | .int x :: r => brc (icB c x 0) pc off r
    | _ => none
  | .if_icmp c off => match st with
    | .int y :: .int x :: r => brc (icB c x y) pc off r
    | _ => none
  | _ => none
def sw (ins : Instr) (pc : Nat) (st : List Value) : Option (Nat × List Value) := match ins with
  | .lookupswitch dflt ps => match st with
    | .int x :: r => if (ps.toList.zip (ps.toList.drop 1)).all (fun (a, next) => a.1 < next.1) = true then jmp pc (Op.lookupswitch.offset ps.toList dflt x.toInt) r else none
    | _ => none
  | .tableswitch dflt lo hi offs => match st with
    | .int x :: r => if x.toInt < lo ∨ hi < x.toInt then jmp pc dflt r else match offs[(x.toInt - lo).toNat]? with
      | some off => jmp pc off r
      | none => none
    | _ => none
  | _ => none
abbrev SH : Type := List Value × AH
def hp1 (ins : Instr) (st : List Value) (h : AH) : Option SH := match ins with
  | .iaload => match st with
    | .int i :: .ref a :: r => (gI 0 h a i).map (fun v => (.int v :: r, h))
    | _ => none
  | .baload => match st with
    | .int i :: .ref a :: r => (if a = 0 then none else gI 2 h a i).map (fun v => (.int v :: r, h))
    | _ => none
  | .laload => match st with
    | .int i :: .ref a :: r => (gJ h a i).map (fun v => (.long v :: r, h))
    | _ => none
  | .aaload => match st with
    | .int i :: .ref a :: r => (gR h a i).map (fun v => (.ref v :: r, h))
    | _ => none
  | .iastore => match st with
    | .int x :: .int i :: .ref a :: r => (pI 0 h a i x).map (fun h' => (r, h'))
    | _ => none
  | .bastore => match st with
    | .int x :: .int i :: .ref a :: r => (pI 2 h a i (x &&& 1)).map (fun h' => (r, h'))
    | _ => none
  | .lastore => match st with
    | .long x :: .int i :: .ref a :: r => (pJ h a i x).map (fun h' => (r, h'))
    | _ => none
  | .aastore => match st with
    | .ref x :: .int i :: .ref a :: r => (pR h a i x).map (fun h' => (r, h'))
    | _ => none
  | .arraylength => match st with
    | .ref a :: r => (gN h a).map (fun n => (.int (Int32.ofNat n) :: r, h))
    | _ => none
  | _ => none
def newP (t : ArrayType) : Option (Nat × (Nat → AC)) := match t with
  | .int => some (0, fun n => iA n (fun _ => 0))
  | .long => some (1, fun n => jA n (fun _ => 0))
  | .boolean => some (2, fun n => zA n (fun _ => 0))
  | _ => none
def hp2 (ins : Instr) (st : List Value) (h : AH) : Option SH := match ins with
  | .newarray t => match st, newP t with
    | .int n :: r, some q => if ¬ n < 0 ∧ n.toNatClampNeg ≤ 1000000 then some (.ref h.1 :: r, hnew h n.toNatClampNeg (q.2 n.toNatClampNeg)) else none
    | _, _ => none
  | _ => none
/-- may this value go into this field, in this method -/
def okP (M : MI) (ci k : Nat) (v : Value) : Bool := decide (narrow (tyF ci k) v = v) && fits (tyF ci k) v && (!(tbF ci k).2.2.2 || (decide ((mY M).name = "<init>") && decide (mC M = ci)))
def hp3 (M : MI) (ins : Instr) (st : List Value) (h : AH) : Option SH := match ins with
  | .getfield i => match st, fTab.lookup (mK M i) with
    | .ref a :: r, some q => (gF h a q.1 q.2).map (fun v => (v :: r, h))
    | _, _ => none
  | .putfield i => match st, fTab.lookup (mK M i) with
    | v :: .ref a :: r, some q => if okP M q.1 q.2 v = true then (pF h a q.1 q.2 v).map (fun h' => (r, h')) else none
    | _, _ => none
  | .new i => match nTab.lookup (mK M i) with
    | some ci => some (.ref h.1 :: st, hnew h (nmF ci) (oB ci ((List.range (nmF ci)).map (fun k => defaultValue (tyF ci k)))))
    | none => none
  | .anewarray i => match st, nTab.lookup (mK M i) with
    | .int n :: r, some ci => if ¬ n < 0 ∧ n.toNatClampNeg ≤ 1000000 ∧ (ci = 6 ∨ ci = 0) then some (.ref h.1 :: r, hnew h n.toNatClampNeg (rA (if ci = 6 then 4 else 5) n.toNatClampNeg (fun _ => none))) else none
    | _, _ => none
  | .invokespecial i => match st with
    | .ref _ :: r => if objTab.contains (mK M i) = true ∧ r.length ≤ 4 ∧ 1 ≤ mF M ∧ 20 ≤ mW M then some (r, h) else none
    | _ => none
  | _ => none
def hmul (h : AH) (N K : Nat) : AH := (h.1 + (1 + N), h.2.1 + (N + N * K), fun x => if x = h.1 then some (rA 3 N (fun i => if i < N then some (h.1 + 1 + i) else none)) else if h.1 < x ∧ x < h.1 + 1 + N then some (jA K (fun _ => 0)) else h.2.2 x)
def hp4 (M : MI) (ins : Instr) (st : List Value) (h : AH) : Option SH := match ins with
  | .multianewarray i d => match st with
    | .int k :: .int n :: r => if d = 2 ∧ jTab.contains (mK M i) = true ∧ ¬ n < 0 ∧ ¬ k < 0 ∧ n.toNatClampNeg ≤ 1000 ∧ k.toNatClampNeg ≤ 1000 then some (.ref h.1 :: r, hmul h n.toNatClampNeg k.toNatClampNeg) else none
    | _ => none
  | _ => none
abbrev ST : Type := Nat × List Value × List Value × AH
/-- an instruction that neither calls nor ends -/
def stepI (M : MI) (pc : Nat) (L st : List Value) (h : AH) : Option ST := match decode (mB M) pc with
  | .ok (ins, 1) => match s1 ins L st with
    | some q => some (pc + 1, q.1, q.2, h)
    | none => (hp1 ins st h).map (fun q => (pc + 1, L, q.1, q.2))
  | .ok (ins, 2) => match s2 M ins L st with
    | some q => some (pc + 2, q.1, q.2, h)
    | none => (hp2 ins st h).map (fun q => (pc + 2, L, q.1, q.2))
  | .ok (ins, 3) => match s3 M ins L st with
    | some q => some (pc + 3, q.1, q.2, h)
    | none => match br ins pc st with
      | some q => some (q.1, L, q.2, h)
      | none => (hp3 M ins st h).map (fun q => (pc + 3, L, q.1, q.2))
  | .ok (ins, 4) => (hp4 M ins st h).map (fun q => (pc + 4, L, q.1, q.2))
  | .ok (ins, _) => (sw ins pc st).map (fun q => (q.1, L, q.2, h))
  | _ => none
/-- the end of a method -/
def retI (M : MI) (pc : Nat) (st : List Value) : Option (Option Value) := match decode (mB M) pc with
  | .ok (.ireturn, 1) => match st, mR M with
    | [.int v], some ty => if narrow ty (.int v) = .int v then some (some (.int v)) else none
    | _, _ => none
  | .ok (.lreturn, 1) => match st with
    | [.long v] => if mR M = some .long then some (some (.long v)) else none
    | _ => none
  | .ok (.return_, 1) => match st with
    | [] => if mR M = none then some none else none
    | _ => none
  | _ => none
/-- a call: callee, arguments, what is left; 0 by the receiver, 1 static, 2 <init>, 3 static of a mate, 4 <init> of a mate -/
def refO (h : AH) (ci : Nat) (v : Option Value) : Bool := match v with
  | some (.ref a) => match h.2.2 a with
    | some (.inr q) => q.1 == ci
    | _ => false
  | _ => false
def refA (v : Option Value) : Bool := match v with
  | some (.ref _) => true
  | _ => false
def cFit (M N : MI) (k : Nat) (st : List Value) : Bool := decide (mF N + 1 ≤ mF M ∧ 19 + mL N + mW N ≤ mW M ∧ k ≤ st.length ∧ (st.drop k).length ≤ 4)
abbrev CL : Type := MI × Nat × Nat
def invI (M : MI) (pc : Nat) (st : List Value) (h : AH) : Option CL := match decode (mB M) pc with
  | .ok (.invokevirtual i, 3) => match vTab.lookup (mK M i) with
    | some N => if cFit M N (mP N + 1) st = true ∧ refO h (mC N) st[mP N]? = true then some (N, mP N + 1, 0) else none
    | none => none
  | .ok (.invokestatic i, 3) => match sTab.lookup (mK M i) with
    | some N => if cFit M N (mP N) st = true then some (N, mP N, 1) else none
    | none => match sNest.lookup (mK M i) with
      | some N => if cFit M N (mP N) st = true then some (N, mP N, 3) else none
      | none => none
  | .ok (.invokespecial i, 3) => match oTab.lookup (mK M i) with
    | some N => if cFit M N (mP N + 1) st = true ∧ refA st[mP N]? = true then some (N, mP N + 1, 2) else none
    | none => match oNest.lookup (mK M i) with
      | some N => if cFit M N (mP N + 1) st = true ∧ refA st[mP N]? = true then some (N, mP N + 1, 4) else none
      | none => none
  | _ => none
def flat : List Value → List Value
  | [] => []
  | v :: vs => if v.category = 2 then v :: .null :: flat vs else v :: flat vs
def ent (n : Nat) (vs : List Value) : List Value := flat vs ++ List.replicate (n - (flat vs).length) .null
abbrev OUT : Type := Option (AH × Option Value)
/-- one turn, with what the rest of the run is -/
def turn (rec : MI → Nat → List Value → List Value → AH → OUT) (M : MI) (pc : Nat) (L st : List Value) (h : AH) : OUT := match retI M pc st with
  | some r => some (h, r)
  | none => match invI M pc st h with
    | some q => if (flat (st.take q.2.1).reverse).length ≤ mL q.1 then
        match rec q.1 0 (ent (mL q.1) (st.take q.2.1).reverse) [] h with
        | some z => rec M (pc + 3) L (z.2.toList ++ st.drop q.2.1) z.1
        | none => none
      else none
    | none => match stepI M pc L st h with
      | some q => rec M q.1 q.2.1 q.2.2.1 q.2.2.2
      | none => none
def exec : Nat → MI → Nat → List Value → List Value → AH → OUT
  | 0 => fun _ _ _ _ _ => none
  | n + 1 => turn (exec n)
theorem turn_mono {f g : MI → Nat → List Value → List Value → AH → OUT} (hfg : ∀ M pc L st h r, f M pc L st h = some r → g M pc L st h = some r) (M : MI) (pc : Nat) (L st : List Value) (h : AH) (r : AH × Option Value) (hr : turn f M pc L st h = some r) : turn g M pc L st h = some r := by
  unfold turn at hr ⊢
  split at hr
  · exact hr
  · split at hr
    · split at hr
      · rename_i hq
        rw [if_pos hq]
        split at hr
        · rename_i z hz
          rw [hfg _ _ _ _ _ _ hz]
          exact hfg _ _ _ _ _ _ hr
        · cases hr
      · cases hr
    · split at hr
      · exact hfg _ _ _ _ _ _ hr
      · cases hr
theorem exec_succ : ∀ (n : Nat) (M : MI) (pc : Nat) (L st : List Value) (h : AH) (r : AH × Option Value), exec n M pc L st h = some r → exec (n + 1) M pc L st h = some r
  | 0, _, _, _, _, _, _, hr => by cases hr
  | n + 1, M, pc, L, st, h, r, hr => turn_mono (fun M pc L st h r => exec_succ n M pc L st h r) M pc L st h r hr
theorem exec_le {n k : Nat} (hk : n ≤ k) {M : MI} {pc : Nat} {L st : List Value} {h : AH} {r : AH × Option Value} (hr : exec n M pc L st h = some r) : exec k M pc L st h = some r := by
  induction hk with
  | refl => exact hr
  | step _ ih => exact exec_succ _ _ _ _ _ _ _ ih
/-- the run from here: what every long enough run comes to -/
noncomputable def Run (M : MI) (pc : Nat) (L st : List Value) (h : AH) : OUT := Classical.epsilon (fun o : OUT => (∃ n, exec n M pc L st h = o ∧ o ≠ none) ∨ ((∀ n, exec n M pc L st h = none) ∧ o = none))
theorem Run_spec (M : MI) (pc : Nat) (L st : List Value) (h : AH) : (∃ n, exec n M pc L st h = Run M pc L st h ∧ Run M pc L st h ≠ none) ∨ ((∀ n, exec n M pc L st h = none) ∧ Run M pc L st h = none) := by
  refine Classical.epsilon_spec (p := fun o : OUT => (∃ n, exec n M pc L st h = o ∧ o ≠ none) ∨ ((∀ n, exec n M pc L st h = none) ∧ o = none)) ?_
  by_cases hx : ∃ n, exec n M pc L st h ≠ none
  · obtain ⟨n, hn⟩ := hx
    exact ⟨_, Or.inl ⟨n, rfl, hn⟩⟩
  · exact ⟨none, Or.inr ⟨fun n => Classical.byContradiction fun q => hx ⟨n, q⟩, rfl⟩⟩
theorem Run_of {n : Nat} {M : MI} {pc : Nat} {L st : List Value} {h : AH} {r : AH × Option Value} (hr : exec n M pc L st h = some r) : Run M pc L st h = some r := by
  rcases Run_spec M pc L st h with ⟨k, hk, hne⟩ | ⟨hn, -⟩
  · cases hR : Run M pc L st h with
    | none => exact absurd hR hne
    | some q =>
      rw [hR] at hk
      have h1 := exec_le (Nat.le_max_left n k) hr
      have h2 := exec_le (Nat.le_max_right n k) hk
      rw [h1] at h2
      exact h2.symm
  · rw [hn n] at hr
    cases hr
theorem Run_ex {M : MI} {pc : Nat} {L st : List Value} {h : AH} {r : AH × Option Value} (hr : Run M pc L st h = some r) : ∃ n, exec n M pc L st h = some r := by
  rcases Run_spec M pc L st h with ⟨k, hk, -⟩ | ⟨-, hn⟩
  · exact ⟨k, hk.trans hr⟩
  · rw [hn] at hr
    cases hr
theorem exec_turn {n : Nat} {M : MI} {pc : Nat} {L st : List Value} {h : AH} {r : AH × Option Value} (hr : exec n M pc L st h = some r) : turn Run M pc L st h = some r := by
  cases n with
  | zero => cases hr
  | succ n => exact turn_mono (fun M pc L st h r hq => Run_of hq) M pc L st h r hr
theorem turn_exec {M : MI} {pc : Nat} {L st : List Value} {h : AH} {r : AH × Option Value} (hr : turn Run M pc L st h = some r) : ∃ n, exec n M pc L st h = some r := by
  unfold turn at hr
  split at hr
  · rename_i v hv
    exact ⟨1, by show turn (exec 0) M pc L st h = _; unfold turn; rw [hv]; exact hr⟩
  · rename_i hv
    split at hr
    · rename_i q hq
      split at hr
      · rename_i hl
        split at hr
        · rename_i z hz
          obtain ⟨n1, h1⟩ := Run_ex hz
          obtain ⟨n2, h2⟩ := Run_ex hr
          refine ⟨max n1 n2 + 1, ?_⟩
          show turn (exec (max n1 n2)) M pc L st h = _
          unfold turn
          rw [hv, hq]
          dsimp only
          rw [if_pos hl, exec_le (Nat.le_max_left n1 n2) h1]
          exact exec_le (Nat.le_max_right n1 n2) h2
        · cases hr
      · cases hr
    · rename_i hq
      split at hr
      · rename_i q hs
        obtain ⟨n1, h1⟩ := Run_ex hr
        exact ⟨n1 + 1, by show turn (exec n1) M pc L st h = _; unfold turn; rw [hv, hq]; dsimp only; rw [hs]; exact h1⟩
      · cases hr
/-- the run is its own turn -/
theorem Run_eq (M : MI) (pc : Nat) (L st : List Value) (h : AH) : Run M pc L st h = turn Run M pc L st h := by
  cases hR : Run M pc L st h with
  | some r =>
    obtain ⟨n, hn⟩ := Run_ex hR
    exact (exec_turn hn).symm
  | none =>
    cases hT : turn Run M pc L st h with
    | none => rfl
    | some r =>
      obtain ⟨n, hn⟩ := turn_exec hT
      rw [Run_of hn] at hR
      cases hR
/-- a call of a method -/
noncomputable def Call (M : MI) (h : AH) (args : List Value) : OUT := Run M 0 (ent (mL M) args) [] h
