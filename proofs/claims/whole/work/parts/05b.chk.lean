/-! the check of a code list: each instruction is what stands in the bytes, and what it links is among the tables' words -/
def mv_host : String := "TurnedTablets"
def mv_lnb : Instr → Nat → Bool
  | .iload _, n => n == 2
  | .aload _, n => n == 2
  | .lload _, n => n == 2
  | .istore _, n => n == 2
  | .astore _, n => n == 2
  | .lstore _, n => n == 2
  | .bipush _, n => n == 2
  | .newarray _, n => n == 2
  | .ldc _, n => n == 2
  | .sipush _, n => n == 3
  | .ldc_w _, n => n == 3
  | .ifnonnull _, n => n == 3
  | .iinc _ _, n => n == 3
  | .getfield _, n => n == 3
  | .putfield _, n => n == 3
  | .getstatic _, n => n == 3
  | .invokevirtual _, n => n == 3
  | .invokestatic _, n => n == 3
  | .invokespecial _, n => n == 3
  | .new _, n => n == 3
  | .anewarray _, n => n == 3
  | .ldc2_w _, n => n == 3
  | .if_icmp _ _, n => n == 3
  | .ifCond _ _, n => n == 3
  | .goto _, n => n == 3
  | .tableswitch _ _ _ _, _ => true
  | .lookupswitch _ _, _ => true
  | _, n => n == 1
def mv_tgt (pc : Nat) (off : Int) (t : Nat) : Bool := decide ((pc : Int) + off = (t : Int))
def mv_tgts (pc : Nat) : List Int → List Nat → Bool
  | [], [] => true
  | o :: os, t :: ts => mv_tgt pc o t && mv_tgts pc os ts
  | _, _ => false
/-- a field of the text -/
def mv_gfs (own : String) (ix : Nat) (ax : List Nat) : Bool :=
  if mv_x3 ax = 0 then mv_chk [.fieldLink own ix "java/lang/String" "coder" "B"] [mv_x0 ax] else mv_chk [.fieldLink own ix "java/lang/String" "value" "[B"] [mv_x0 ax]
def mv_gfl (own : String) (ix : Nat) (ax : List Nat) : Bool := match mv_cl[mv_x2 ax]? with
  | some (_, T, N) => decide (mv_x3 ax < N) && (match mv_x1 ax with
    | 1 => decide (mv_all[mv_x0 ax]? = some (.fieldLinkNest own ix (T (mv_x3 ax)).1 (T (mv_x3 ax)).2.1 (T (mv_x3 ax)).2.2.1 mv_host))
    | _ => mv_chk [.fieldLink own ix (T (mv_x3 ax)).1 (T (mv_x3 ax)).2.1 (T (mv_x3 ax)).2.2.1] [mv_x0 ax])
  | none => false
/-- a store into a field: of a number of the kind, or of a reference; a final one in the constructor of its own class alone -/
def mv_gpf (own nm : String) (ax : List Nat) : Bool := match mv_cl[mv_x2 ax]?, mv_ty[mv_x2 ax]? with
  | some (_, T, _), some t => (match mv_x1 ax with
    | 2 => (T (mv_x3 ax)).2.2.2 && decide (nm = "<init>") && decide ((T (mv_x3 ax)).1 = own)
    | _ => !(T (mv_x3 ax)).2.2.2) && (match mv_x4 ax, t (mv_x3 ax) with
    | 0, .int => true
    | 1, .boolean => true
    | 2, .byte => true
    | 3, .array _ => true
    | 3, .object _ => true
    | _, _ => false)
  | _, _ => false
def mv_cws (kd : Nat) (own C : String) (ix : Nat) (m : mv_Mt) : List Cond := match kd with
  | 0 => [.methodLink own ix m.1, .instanceMethod m.1, .selects C m.1 m.1, .initialized m.1.cls, .code m.1 m.2.1 m.2.2.1 m.2.2.2.1]
  | 1 => [.instanceMethod m.1, .selects C m.1 m.1, .initialized m.1.cls, .code m.1 m.2.1 m.2.2.1 m.2.2.2.1]
  | 2 => [.methodLink own ix m.1, .sameMethod m.1.cls m.1.cls m.1.name m.1.desc, .superclass own m.1.cls, .instanceMethod m.1, .initialized m.1.cls, .code m.1 m.2.1 m.2.2.1 m.2.2.2.1]
  | 3 => [.methodLink own ix m.1, .static m.1, .initialized m.1.cls, .code m.1 m.2.1 m.2.2.1 m.2.2.2.1]
  | 4 => [.static m.1, .initialized m.1.cls, .code m.1 m.2.1 m.2.2.1 m.2.2.2.1]
  | 8 => [.methodLink own ix m.1, .instanceMethod m.1, .selects "java/lang/String" m.1 m.1, .initialized m.1.cls, .code m.1 m.2.1 m.2.2.1 m.2.2.2.1]
  | 5 => [.methodLink own ix m.1, .instanceMethod m.1, .initialized m.1.cls, .code m.1 m.2.1 m.2.2.1 m.2.2.2.1]
  | _ => [.instanceMethod m.1, .initialized m.1.cls, .code m.1 m.2.1 m.2.2.1 m.2.2.2.1]
def mv_isn : Nat → Bool
  | 1 => true
  | 4 => true
  | 6 => true
  | _ => false
def mv_pn (m : mv_Mt) : Option Nat := (parseMethodDescriptor m.1.desc).map (fun d => d.parameters.length)
/-- ax: kind, callee, arguments with the receiver, the receiver's class, cells, slots, place of the nest word, places of the others -/
def mv_gca (k : Nat) (own : String) (R : Jvm.Room) (op : Nat) (ix : Nat) (ax : List Nat) : Bool := match mv_meth[mv_x1 ax]?, mv_cl[mv_x3 ax]? with
  | some m, some c => (decide (mv_x1 ax < k ∧ m.2.2.2.2.frames + 1 ≤ R.frames ∧ 8 + (m.2.2.1 + 11) + m.2.2.2.2.locals ≤ R.locals ∧ m.2.2.2.2.cells = mv_x4 ax ∧ m.2.2.2.2.slots = mv_x5 ax) &&
    decide (m.1.cls ≠ "java/lang/invoke/MethodHandle" ∧ m.1.cls ≠ "java/lang/invoke/VarHandle")) && (mv_chk (mv_cws (mv_x0 ax) own c.1 ix m) (ax.drop 7) &&
    ((if mv_isn (mv_x0 ax) then decide (mv_all[ax.getD 6 0]? = some (.methodLinkNest own ix m.1 mv_host)) else true) && (match mv_x0 ax, op with
    | 0, 0 => decide (mv_pn m = some (mv_x2 ax - 1) ∧ 0 < mv_x2 ax)
    | 1, 0 => decide (mv_pn m = some (mv_x2 ax - 1) ∧ 0 < mv_x2 ax)
    | 8, 0 => decide (mv_pn m = some (mv_x2 ax - 1) ∧ 0 < mv_x2 ax)
    | 2, 2 => decide (mv_pn m = some (mv_x2 ax - 1) ∧ 0 < mv_x2 ax ∧ m.1.name ≠ "<init>")
    | 3, 1 => decide (mv_pn m = some (mv_x2 ax))
    | 4, 1 => decide (mv_pn m = some (mv_x2 ax))
    | 5, 2 => decide (mv_pn m = some (mv_x2 ax - 1) ∧ 0 < mv_x2 ax ∧ m.1.name = "<init>" ∧ m.2.2.2.1 = none)
    | 6, 2 => decide (mv_pn m = some (mv_x2 ax - 1) ∧ 0 < mv_x2 ax ∧ m.1.name = "<init>" ∧ m.2.2.2.1 = none)
    | _, _ => false)))
  | _, _ => false
def mv_giv (k : Nat) (own : String) (R : Jvm.Room) (op : Nat) (ix : Nat) (ax : List Nat) : Bool := match ax with
  | 10 :: r => decide (op = 1 ∧ 1 ≤ R.frames ∧ 8 + (nativeFrameWords "java/lang/System" "arraycopy" 5 + 11) ≤ R.locals) && mv_chk [.methodLink own ix arraycopyName, .native arraycopyName, .static arraycopyName, .initialized "java/lang/System"] r
  | 11 :: r => decide (op = 1 ∧ 1 ≤ R.frames ∧ 21 ≤ R.locals) && mv_chk [.methodLink own ix Lib.Math.min.name, .static Lib.Math.min.name, .initialized "java/lang/Math", .code Lib.Math.min.name Lib.Math.min.code 2 (some .int)] r
  | 12 :: r => decide (op = 1 ∧ 1 ≤ R.frames ∧ 21 ≤ R.locals) && mv_chk [.methodLink own ix Lib.Math.abs.name, .static Lib.Math.abs.name, .initialized "java/lang/Math", .code Lib.Math.abs.name Lib.Math.abs.code 1 (some .int)] r
  | 13 :: r => decide (op = 2 ∧ 1 ≤ R.frames ∧ 21 ≤ R.locals) && mv_chk [.methodLink own ix Lib.objectInit, .instanceMethod Lib.objectInit, .code Lib.objectInit ⟨#[0xb1]⟩ 1 none] r
  | 14 :: r => decide (op = 1 ∧ 1 ≤ R.frames ∧ 8 + (nativeFrameWords "java/lang/System" "arraycopy" 5 + 11) ≤ R.locals) && mv_chk [.methodLink own ix arraycopyName, .native arraycopyName, .static arraycopyName, .initialized "java/lang/System"] r
  | _ => mv_gca k own R op ix ax
def mv_gi (k : Nat) (m : mv_Mt) (pc : Nat) (i : Instr) (ax : List Nat) : Bool := match i with
  | .goto off => mv_tgt pc off (mv_x0 ax)
  | .if_icmp _ off => mv_tgt pc off (mv_x0 ax)
  | .ifCond _ off => mv_tgt pc off (mv_x0 ax)
  | .tableswitch d lo hi offs => mv_tgt pc d (mv_x0 ax) && (mv_tgts pc offs.toList ax.tail && decide (hi = lo + (offs.size : Int) - 1 ∧ -1000 ≤ lo ∧ lo ≤ 1000 ∧ offs.size ≤ 1000))
  | .lookupswitch d ps => mv_tgt pc d (mv_x0 ax) && (mv_tgts pc (ps.toList.map Prod.snd) ax.tail && ((ps.toList.zip (ps.toList.drop 1)).all (fun (a, next) => decide (a.1 < next.1)) && ps.toList.all (fun a => decide (0 ≤ a.1 ∧ a.1 ≤ 1000))))
  | .getfield ix => (match mv_x1 ax with
    | 5 => mv_gfs m.1.cls ix ax
    | _ => mv_gfl m.1.cls ix ax)
  | .putfield ix => mv_gfl m.1.cls ix ax && mv_gpf m.1.cls m.1.name ax
  | .ldc ix => if mv_x2 ax = 0 then mv_chk [.constant m.1.cls ix (Int32.ofNat (mv_x1 ax))] [mv_x0 ax] else decide (m.1.cls = "TurnedTablets" ∧ ix = 60)
  | .ldc_w ix => mv_chk [.constant m.1.cls ix (Int32.ofNat (mv_x1 ax))] [mv_x0 ax]
  | .ifnonnull off => mv_tgt pc off (mv_x0 ax)
  | .ldc2_w ix => mv_chk [.constantLong m.1.cls ix (Int64.ofNat (mv_x1 ax))] [mv_x0 ax]
  | .getstatic ix => (match mv_x1 ax with
    | 0 => mv_chk [.fieldLink m.1.cls ix "java/lang/String" "COMPACT_STRINGS" "Z"] [mv_x0 ax]
    | _ => mv_chk [.fieldLink m.1.cls ix "jdk/internal/util/Preconditions" "SIOOBE_FORMATTER" "Ljava/util/function/BiFunction;"] [mv_x0 ax])
  | .new ix => (match mv_cl[mv_x3 ax]? with
    | some c => decide (c.2.2 = mv_x4 ax) && mv_chk [.classLink m.1.cls ix c.1, .instantiable c.1 c.2.2, .initialized c.1] [mv_x0 ax, mv_x1 ax, mv_x2 ax]
    | none => false)
  | .newarray t => (match mv_x1 ax, newarray.typeOf t with
    | 0, .int => true
    | 1, .byte => true
    | 2, .boolean => true
    | _, _ => false) && mv_chk [.arrayClass (newarray.typeOf t)] [mv_x0 ax]
  | .anewarray ix => mv_chk [.classLink m.1.cls ix "TurnedTablets$Cloth"] [mv_x0 ax]
  | .invokevirtual ix => mv_giv k m.1.cls m.2.2.2.2 0 ix ax
  | .invokestatic ix => mv_giv k m.1.cls m.2.2.2.2 1 ix ax
  | .invokespecial ix => mv_giv k m.1.cls m.2.2.2.2 2 ix ax
  | .ireturn => (match mv_x0 ax, m.2.2.2.1 with
    | 0, some .int => true
    | 1, some .boolean => true
    | 2, some .char => true
    | 3, some .byte => true
    | _, _ => false)
  | .areturn => (match m.2.2.2.1 with
    | some (.object _) => true
    | some (.array _) => true
    | _ => false)
  | .return_ => decide (m.2.2.2.1 = none)
  | _ => true
def mv_good (k : Nat) (m : mv_Mt) (q : Nat × Instr × Nat × List Nat) : Bool := mv_lnb q.2.1 q.2.2.1 && mv_gi k m q.1 q.2.1 q.2.2.2
def mv_goods (k : Nat) (cd : mv_Cd) : Bool := match mv_meth[k]? with
  | some m => cd.all (mv_good k m)
  | none => false
def mv_decs (b : ByteArray) (cd : mv_Cd) : Prop := ∀ q ∈ cd, decode b q.1 = .ok (q.2.1, q.2.2.1)
theorem mv_cl_in : mv_cl.all (fun q => (u_ws q.1 q.2.1 q.2.2).all (fun w => decide (w ∈ mv_all) && goodWord w)) = true := by decide +kernel
theorem mv_cl_nm : ∀ q ∈ mv_cl, ∀ a, a < q.2.2 → ∀ b, b < q.2.2 → a ≠ b → (q.2.1 a).2.1 ≠ (q.2.1 b).2.1 := by decide +kernel
theorem mv_cl_ty : ∀ z ∈ mv_cl.zip mv_ty, ∀ k, k < z.1.2.2 → parseFieldDescriptor (z.1.2.1 k).2.2.1 = some (z.2 k) := by decide +kernel
theorem mv_host_nest : ∀ w ∈ mv_nw, True := fun _ _ => trivial
