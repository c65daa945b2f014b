/-! A small machine of our own (mv_): a heap of cells by places, contents by numbers; one step; the least set of states from which it comes to its end. -/
abbrev mv_Sh1 : Type := (Nat × Nat) ⊕ ((Nat × List (Option Value)) ⊕ (Nat × Nat × (Nat → Option Nat)))
abbrev mv_Shp : Type := List mv_Sh1
abbrev mv_Mem : Type := Nat → Nat → Int32
abbrev mv_Post : Type := Option Value → mv_Shp → mv_Mem → Prop
abbrev mv_Sp : Type := List Value → mv_Shp → mv_Mem → mv_Post → Prop
abbrev mv_Loc : Type := List (Option Value)
abbrev mv_Kt : Type := Nat → mv_Loc → List Value → mv_Shp → mv_Mem → Nat → Nat → Prop
abbrev mv_Cd : Type := List (Nat × Instr × Nat × List Nat)
def mv_f (cd : mv_Cd) (pc : Nat) : Option (Instr × Nat × List Nat) := (cd.find? (fun q => q.1 == pc)).map (fun q => q.2)
def mv_up (M : mv_Mem) (a i : Nat) (x : Int32) : mv_Mem := fun b => if b = a then upd (M a) i x else M b
def mv_wr (M : mv_Mem) (a : Nat) (g : Nat → Int32) : mv_Mem := fun b => if b = a then g else M b
-- locals
def mv_ldI : mv_Loc → Nat → (Int32 → Prop) → Prop
  | some (.int v) :: _, 0, f => f v
  | _ :: L, i + 1, f => mv_ldI L i f
  | _, _, _ => False
def mv_ldL : mv_Loc → Nat → (Int64 → Prop) → Prop
  | some (.long v) :: _, 0, f => f v
  | _ :: L, i + 1, f => mv_ldL L i f
  | _, _, _ => False
def mv_ldA : mv_Loc → Nat → (Nat → Prop) → Prop
  | some (.ref v) :: _, 0, f => f v
  | _ :: L, i + 1, f => mv_ldA L i f
  | _, _, _ => False
def mv_stA : mv_Loc → Nat → Value → (mv_Loc → Prop) → Prop
  | _ :: L, 0, v, f => f (some v :: L)
  | some (.long _) :: _, 1, _, _ => False
  | x :: L, i + 1, v, f => mv_stA L i v (fun L' => f (x :: L'))
  | [], _, _, _ => False
def mv_stL0 : mv_Loc → Value → (mv_Loc → Prop) → Prop
  | _ :: L, v, f => f (some v :: none :: L)
  | [], _, _ => False
def mv_stL : mv_Loc → Nat → Value → (mv_Loc → Prop) → Prop
  | _ :: L, 0, v, f => mv_stL0 L v f
  | some (.long _) :: _, 1, _, _ => False
  | x :: L, i + 1, v, f => mv_stL L i v (fun L' => f (x :: L'))
  | [], _, _, _ => False
-- stack
def mv_p0 : List Value → Prop → Prop
  | [], f => f
  | _, _ => False
def mv_pR : List Value → (Int32 → Prop) → Prop
  | [.int v], f => f v
  | _, _ => False
def mv_pQ : List Value → (Nat → Prop) → Prop
  | [.ref v], f => f v
  | _, _ => False
def mv_pI : List Value → (Int32 → List Value → Prop) → Prop
  | .int v :: st, f => f v st
  | _, _ => False
def mv_pA : List Value → (Nat → List Value → Prop) → Prop
  | .ref v :: st, f => f v st
  | _, _ => False
def mv_pL : List Value → (Int64 → List Value → Prop) → Prop
  | .long v :: st, f => f v st
  | _, _ => False
/-- a value of one word -/
def mv_pV : List Value → (Value → List Value → Prop) → Prop
  | .int v :: st, f => f (.int v) st
  | .ref v :: st, f => f (.ref v) st
  | .null :: st, f => f .null st
  | _, _ => False
def mv_tk : Nat → List Value → List Value → (List Value → List Value → Prop) → Prop
  | 0, acc, st, f => f acc st
  | n + 1, acc, v :: st, f => mv_tk n (v :: acc) st f
  | _ + 1, _, [], _ => False
def mv_ss : List Value → Nat
  | [] => 0
  | v :: r => mv_ss r + v.category
-- cells
def mv_gf (sh : mv_Shp) (M : mv_Mem) (a ci j : Nat) (f : Value → Prop) : Prop := match sh[a]? with
  | some (.inr (.inl (ci', fs))) => ci' = ci ∧ (match fs[j]? with
    | some none => f (.int (M a j))
    | some (some v) => f v
    | none => False)
  | _ => False
def mv_pf (sh : mv_Shp) (M : mv_Mem) (a ci j : Nat) (v : Value) (f : mv_Shp → mv_Mem → Prop) : Prop := match sh[a]? with
  | some (.inr (.inl (ci', fs))) => ci' = ci ∧ (match fs[j]?, v with
    | some none, .int x => f sh (mv_up M a j x)
    | some (some _), .ref b => f (sh.set a (.inr (.inl (ci, fs.set j (some (.ref b)))))) M
    | _, _ => False)
  | _ => False
/-- an array of numbers of the kind t at the place a: how long it is -/
def mv_ar (sh : mv_Shp) (a : Nat) (t n : Nat) : Prop := sh[a]? = some (.inl (t, n))
def mv_nums (sh : mv_Shp) (a : Nat) (f : Nat → Nat → Prop) : Prop := match sh[a]? with
  | some (.inl (t, n)) => f t n
  | _ => False
def mv_refs (sh : mv_Shp) (a : Nat) (f : Nat → Nat → (Nat → Option Nat) → Prop) : Prop := match sh[a]? with
  | some (.inr (.inr (t, n, g))) => f t n g
  | _ => False
def mv_some (x : Option Nat) (f : Nat → Prop) : Prop := match x with
  | some b => f b
  | none => False
def mv_isO (sh : mv_Shp) (v : Option Value) (ci : Nat) : Prop := match v with
  | some (.ref a) => (match sh[a]? with
    | some (.inr (.inl (ci', _))) => ci' = ci
    | _ => False)
  | _ => False
def mv_cal (S : Nat → mv_Sp) (j : Nat) (As : List Value) (sh : mv_Shp) (M : mv_Mem) (F : mv_Post) : Prop := ∃ Q : mv_Post, S j As sh M Q ∧ ∀ v sh' M', Q v sh' M' → F v sh' M'
def mv_nr : Nat → Int32 → Prop
  | 0, _ => True
  | 1, v => v = 0 ∨ v = 1
  | 2, v => vp_nar .char v = v
  | _, v => v.toInt8.toInt32 = v
def mv_x0 (ax : List Nat) : Nat := ax.getD 0 0
def mv_x1 (ax : List Nat) : Nat := ax.getD 1 0
def mv_x2 (ax : List Nat) : Nat := ax.getD 2 0
def mv_x3 (ax : List Nat) : Nat := ax.getD 3 0
def mv_x4 (ax : List Nat) : Nat := ax.getD 4 0
def mv_x5 (ax : List Nat) : Nat := ax.getD 5 0
/-- a number that a field of the kind can hold -/
def mv_pk : Nat → Value → Prop
  | 0, .int _ => True
  | 1, .int x => x = 0 ∨ x = 1
  | 2, .int x => x.toInt8.toInt32 = x
  | 3, .ref _ => True
  | _, _ => False
def mv_sw (x : Int32) : Int → List Nat → Nat → (Nat → Prop) → Prop
  | _, [], d, K => K d
  | v, t :: ts, d, K => (x = Int32.ofInt v → K t) ∧ (¬ x = Int32.ofInt v → mv_sw x (v + 1) ts d K)
def mv_ls (x : Int32) : List (Int × Nat) → Nat → (Nat → Prop) → Prop
  | [], d, K => K d
  | (v, t) :: ts, d, K => (x = Int32.ofInt v → K t) ∧ (¬ x = Int32.ofInt v → mv_ls x ts d K)
/-- the default fields of a class: none a number, some null a reference -/
def mv_cpy (f g : Nat → Int32) (sp dp n : Nat) : Nat → Int32 := va_cpy f g sp dp n
-- classes of the worlds' objects: name, fields; by number
abbrev mv_Cls : Type := List (List (Option Value))
def mv_inv (S : Nat → mv_Sp) (lim : Nat × Nat) (K : mv_Kt) (ax : List Nat) (pc : Nat) (L : mv_Loc) (st : List Value) (sh : mv_Shp) (M : mv_Mem) (c s : Nat) : Prop :=
  mv_tk (mv_x2 ax) [] st (fun As rest => mv_ss rest ≤ 8 ∧ c + mv_x4 ax ≤ lim.1 ∧ s + mv_x5 ax ≤ lim.2 ∧ ((mv_x0 ax < 3 ∨ 4 < mv_x0 ax ∧ mv_x0 ax < 8 → mv_isO sh As.head? (mv_x3 ax)) ∧ (mv_x0 ax = 8 → As.head? = some (.ref 1000))) ∧
    mv_cal S (mv_x1 ax) As sh M (fun v sh' M' => K (pc + 3) L (v.toList ++ rest) sh' M' (c + mv_x4 ax) (s + mv_x5 ax)))
def mv_acp (K : mv_Kt) (pc : Nat) (L : mv_Loc) (st : List Value) (sh : mv_Shp) (M : mv_Mem) (c s : Nat) : Prop :=
  mv_pI st (fun n st => mv_pI st (fun dp st => mv_pA st (fun d st => mv_pI st (fun sp st => mv_pA st (fun a st => mv_nums sh a (fun t0 n0 => mv_nums sh d (fun t1 n1 =>
    (mv_ss st ≤ 8 ∧ t0 = t1 ∧ (t0 = 0 ∨ t0 = 1 ∧ ∀ i : Nat, i < n.toNatClampNeg → (M a (sp.toNatClampNeg + i)).toInt8.toInt32 = M a (sp.toNatClampNeg + i)) ∧ ¬ sp < 0 ∧ ¬ dp < 0 ∧ ¬ n < 0 ∧ sp.toNatClampNeg + n.toNatClampNeg ≤ n0 ∧ dp.toNatClampNeg + n.toNatClampNeg ≤ n1) ∧
    K (pc + 3) L st sh (mv_wr M d (va_cpy (M a) (M d) sp.toNatClampNeg dp.toNatClampNeg n.toNatClampNeg)) c s)))))))
/-- the text's bytes, as they stand in the class file -/
def mv_text : String := "t0,0,1123;t0,1,2231;t1,0,1212;t2,1,3312;t0,0,1231;t3,1,2213;p012345;p024;p135;p05;l16;d0f1f2b0f;"
def mv_bytes : List Int32 := [116, 48, 44, 48, 44, 49, 49, 50, 51, 59, 116, 48, 44, 49, 44, 50, 50, 51, 49, 59, 116, 49, 44, 48, 44, 49, 50, 49, 50, 59, 116, 50, 44, 49, 44, 51, 51, 49, 50, 59, 116, 48, 44, 48, 44, 49, 50, 51, 49, 59, 116, 51, 44, 49, 44, 50, 50, 49, 51, 59, 112, 48, 49, 50, 51, 52, 53, 59, 112, 48, 50, 52, 59, 112, 49, 51, 53, 59, 112, 48, 53, 59, 108, 49, 54, 59, 100, 48, 102, 49, 102, 50, 98, 48, 102, 59]
def mv_acr (K : mv_Kt) (pc : Nat) (L : mv_Loc) (st : List Value) (sh : mv_Shp) (M : mv_Mem) (c s : Nat) : Prop :=
  mv_pI st (fun n st => mv_pI st (fun dp st => mv_pA st (fun d st => mv_pI st (fun sp st => mv_pA st (fun a st => mv_nums sh d (fun t1 n1 =>
    (mv_ss st ≤ 8 ∧ a = 1001 ∧ t1 = 1 ∧ ¬ sp < 0 ∧ ¬ dp < 0 ∧ ¬ n < 0 ∧ sp.toNatClampNeg + n.toNatClampNeg ≤ 96 ∧ dp.toNatClampNeg + n.toNatClampNeg ≤ n1) ∧
    K (pc + 3) L st sh (mv_wr M d (va_cpy (fun j => mv_bytes.getD j 0) (M d) sp.toNatClampNeg dp.toNatClampNeg n.toNatClampNeg)) c s))))))
def mv_getf (K : mv_Kt) (ax : List Nat) (pc : Nat) (L : mv_Loc) (st : List Value) (sh : mv_Shp) (M : mv_Mem) (c s : Nat) : Prop := match mv_x1 ax with
  | 5 => mv_pA st (fun a st => a = 1000 ∧ K pc L ((if mv_x3 ax = 0 then .int 0 else .ref 1001) :: st) sh M c s)
  | _ => mv_pA st (fun a st => mv_gf sh M a (mv_x2 ax) (mv_x3 ax) (fun v => K pc L (v :: st) sh M c s))
def mv_alen (K : mv_Kt) (ax : List Nat) (pc : Nat) (L : mv_Loc) (st : List Value) (sh : mv_Shp) (M : mv_Mem) (c s : Nat) : Prop := match ax with
  | [] => mv_pA st (fun a st => mv_nums sh a (fun t n => t < 3 ∧ K pc L (.int (Int32.ofNat n) :: st) sh M c s))
  | _ => mv_pA st (fun a st => a = 1001 ∧ K pc L (.int 96 :: st) sh M c s)
def mv_ivk (S : Nat → mv_Sp) (lim : Nat × Nat) (K : mv_Kt) (ax : List Nat) (pc : Nat) (L : mv_Loc) (st : List Value) (sh : mv_Shp) (M : mv_Mem) (c s : Nat) : Prop :=
  match ax with
  | 10 :: _ => mv_acp K pc L st sh M c s
  | 11 :: _ => mv_ss st ≤ 8 ∧ mv_pI st (fun y st => mv_pI st (fun x st => K (pc + 3) L (.int (if y < x then y else x) :: st) sh M c s))
  | 12 :: _ => mv_ss st ≤ 8 ∧ mv_pI st (fun x st => K (pc + 3) L (.int (if 0 ≤ x then x else 0 - x) :: st) sh M c s)
  | 13 :: _ => mv_ss st ≤ 8 ∧ mv_pA st (fun _ st => K (pc + 3) L st sh M c s)
  | 14 :: _ => mv_acr K pc L st sh M c s
  | _ => mv_inv S lim K ax pc L st sh M c s
def mv_step (DF : mv_Cls) (S : Nat → mv_Sp) (lim : Nat × Nat) (P : mv_Post) (K : mv_Kt) (i : Instr) (len : Nat) (ax : List Nat) (pc : Nat) (L : mv_Loc) (st : List Value) (sh : mv_Shp) (M : mv_Mem) (c s : Nat) : Prop :=
  match i with
  | .iload_n x => mv_ldI L x (fun v => K (pc + len) L (.int v :: st) sh M c s)
  | .iload x => mv_ldI L x (fun v => K (pc + len) L (.int v :: st) sh M c s)
  | .aload_n x => mv_ldA L x (fun v => K (pc + len) L (.ref v :: st) sh M c s)
  | .aload x => mv_ldA L x (fun v => K (pc + len) L (.ref v :: st) sh M c s)
  | .lload_n x => mv_ldL L x (fun v => K (pc + len) L (.long v :: st) sh M c s)
  | .lload x => mv_ldL L x (fun v => K (pc + len) L (.long v :: st) sh M c s)
  | .istore_n x => mv_pI st (fun v st => mv_stA L x (.int v) (fun L => K (pc + len) L st sh M c s))
  | .istore x => mv_pI st (fun v st => mv_stA L x (.int v) (fun L => K (pc + len) L st sh M c s))
  | .astore_n x => mv_pA st (fun v st => mv_stA L x (.ref v) (fun L => K (pc + len) L st sh M c s))
  | .astore x => mv_pA st (fun v st => mv_stA L x (.ref v) (fun L => K (pc + len) L st sh M c s))
  | .lstore_n x => mv_pL st (fun v st => mv_stL L x (.long v) (fun L => K (pc + len) L st sh M c s))
  | .lstore x => mv_pL st (fun v st => mv_stL L x (.long v) (fun L => K (pc + len) L st sh M c s))
  | .iinc x n => mv_ldI L x (fun v => mv_stA L x (.int (v + Int32.ofInt n)) (fun L => K (pc + len) L st sh M c s))
  | .iconst n => K (pc + len) L (.int (Int32.ofInt n) :: st) sh M c s
  | .bipush n => K (pc + len) L (.int ((Int8.ofInt n).toInt32) :: st) sh M c s
  | .sipush n => K (pc + len) L (.int ((Int16.ofInt n).toInt32) :: st) sh M c s
  | .lconst n => K (pc + len) L (.long (Int64.ofNat n) :: st) sh M c s
  | .ldc _ => K (pc + len) L ((if mv_x2 ax = 0 then .int (Int32.ofNat (mv_x1 ax)) else .ref 1000) :: st) sh M c s
  | .ldc_w _ => K (pc + len) L (.int (Int32.ofNat (mv_x1 ax)) :: st) sh M c s
  | .ifnonnull _ => mv_pA st (fun _ st => K (mv_x0 ax) L st sh M c s)
  | .ldc2_w _ => K (pc + len) L (.long (Int64.ofNat (mv_x1 ax)) :: st) sh M c s
  | .getstatic _ => match ax with
    | [_, 0] => K (pc + len) L (.int 1 :: st) sh M c s
    | [_, 1] => K (pc + len) L (.null :: st) sh M c s ∧ K (pc + len) L (.ref 2000 :: st) sh M c s
    | _ => False
  | .iadd => mv_pI st (fun y st => mv_pI st (fun x st => K (pc + len) L (.int (x + y) :: st) sh M c s))
  | .isub => mv_pI st (fun y st => mv_pI st (fun x st => K (pc + len) L (.int (x - y) :: st) sh M c s))
  | .imul => mv_pI st (fun y st => mv_pI st (fun x st => K (pc + len) L (.int (x * y) :: st) sh M c s))
  | .iand => mv_pI st (fun y st => mv_pI st (fun x st => K (pc + len) L (.int (x &&& y) :: st) sh M c s))
  | .ior => mv_pI st (fun y st => mv_pI st (fun x st => K (pc + len) L (.int (x ||| y) :: st) sh M c s))
  | .ixor => mv_pI st (fun y st => mv_pI st (fun x st => K (pc + len) L (.int (x ^^^ y) :: st) sh M c s))
  | .ishl => mv_pI st (fun y st => mv_pI st (fun x st => K (pc + len) L (.int (x <<< (y &&& 31)) :: st) sh M c s))
  | .ishr => mv_pI st (fun y st => mv_pI st (fun x st => K (pc + len) L (.int (x >>> (y &&& 31)) :: st) sh M c s))
  | .iushr => mv_pI st (fun y st => mv_pI st (fun x st => K (pc + len) L (.int ((x.toUInt32 >>> (y.toUInt32 &&& Int32.toUInt32 31)).toInt32) :: st) sh M c s))
  | .idiv => mv_pI st (fun y st => mv_pI st (fun x st => ¬ y = 0 ∧ K (pc + len) L (.int (x / y) :: st) sh M c s))
  | .irem => mv_pI st (fun y st => mv_pI st (fun x st => ¬ y = 0 ∧ K (pc + len) L (.int (x - x / y * y) :: st) sh M c s))
  | .ineg => mv_pI st (fun x st => K (pc + len) L (.int (-x) :: st) sh M c s)
  | .i2l => mv_pI st (fun x st => K (pc + len) L (.long x.toInt64 :: st) sh M c s)
  | .i2b => mv_pI st (fun x st => K (pc + len) L (.int x.toInt8.toInt32 :: st) sh M c s)
  | .i2c => mv_pI st (fun x st => K (pc + len) L (.int ((x.toUInt32 % 65536).toInt32) :: st) sh M c s)
  | .l2i => mv_pL st (fun x st => K (pc + len) L (.int x.toInt32 :: st) sh M c s)
  | .ladd => mv_pL st (fun y st => mv_pL st (fun x st => K (pc + len) L (.long (x + y) :: st) sh M c s))
  | .lmul => mv_pL st (fun y st => mv_pL st (fun x st => K (pc + len) L (.long (x * y) :: st) sh M c s))
  | .lrem => mv_pL st (fun y st => mv_pL st (fun x st => ¬ y = 0 ∧ K (pc + len) L (.long (x - x / y * y) :: st) sh M c s))
  | .lcmp => mv_pL st (fun y st => mv_pL st (fun x st => K (pc + len) L (.int (lg_cmp x y) :: st) sh M c s))
  | .if_icmp .eq _ => mv_pI st (fun y st => mv_pI st (fun x st => (x = y → K (mv_x0 ax) L st sh M c s) ∧ (¬ x = y → K (pc + len) L st sh M c s)))
  | .if_icmp .ne _ => mv_pI st (fun y st => mv_pI st (fun x st => (¬ x = y → K (mv_x0 ax) L st sh M c s) ∧ (x = y → K (pc + len) L st sh M c s)))
  | .if_icmp .lt _ => mv_pI st (fun y st => mv_pI st (fun x st => (x < y → K (mv_x0 ax) L st sh M c s) ∧ (¬ x < y → K (pc + len) L st sh M c s)))
  | .if_icmp .ge _ => mv_pI st (fun y st => mv_pI st (fun x st => (y ≤ x → K (mv_x0 ax) L st sh M c s) ∧ (¬ y ≤ x → K (pc + len) L st sh M c s)))
  | .if_icmp .gt _ => mv_pI st (fun y st => mv_pI st (fun x st => (y < x → K (mv_x0 ax) L st sh M c s) ∧ (¬ y < x → K (pc + len) L st sh M c s)))
  | .if_icmp .le _ => mv_pI st (fun y st => mv_pI st (fun x st => (x ≤ y → K (mv_x0 ax) L st sh M c s) ∧ (¬ x ≤ y → K (pc + len) L st sh M c s)))
  | .ifCond .eq _ => mv_pI st (fun x st => (x = 0 → K (mv_x0 ax) L st sh M c s) ∧ (¬ x = 0 → K (pc + len) L st sh M c s))
  | .ifCond .ne _ => mv_pI st (fun x st => (¬ x = 0 → K (mv_x0 ax) L st sh M c s) ∧ (x = 0 → K (pc + len) L st sh M c s))
  | .ifCond .lt _ => mv_pI st (fun x st => (x < 0 → K (mv_x0 ax) L st sh M c s) ∧ (¬ x < 0 → K (pc + len) L st sh M c s))
  | .ifCond .ge _ => mv_pI st (fun x st => (0 ≤ x → K (mv_x0 ax) L st sh M c s) ∧ (¬ 0 ≤ x → K (pc + len) L st sh M c s))
  | .ifCond .gt _ => mv_pI st (fun x st => (0 < x → K (mv_x0 ax) L st sh M c s) ∧ (¬ 0 < x → K (pc + len) L st sh M c s))
  | .ifCond .le _ => mv_pI st (fun x st => (x ≤ 0 → K (mv_x0 ax) L st sh M c s) ∧ (¬ x ≤ 0 → K (pc + len) L st sh M c s))
  | .goto _ => K (mv_x0 ax) L st sh M c s
  | .dup => mv_pV st (fun v st => K (pc + len) L (v :: v :: st) sh M c s)
  | .dup_x1 => mv_pV st (fun v st => mv_pV st (fun w st => K (pc + len) L (v :: w :: v :: st) sh M c s))
  | .dup2 => mv_pV st (fun v st => mv_pV st (fun w st => K (pc + len) L (v :: w :: v :: w :: st) sh M c s))
  | .pop => mv_pV st (fun _ st => K (pc + len) L st sh M c s)
  | .tableswitch _ lo _ _ => mv_pI st (fun x st => mv_sw x lo ax.tail (mv_x0 ax) (fun t => K t L st sh M c s))
  | .lookupswitch _ ps => mv_pI st (fun x st => mv_ls x ((ps.toList.map Prod.fst).zip ax.tail) (mv_x0 ax) (fun t => K t L st sh M c s))
  | .getfield _ => mv_getf K ax (pc + len) L st sh M c s
  | .putfield _ => mv_pV st (fun v st => mv_pk (mv_x4 ax) v ∧ mv_pA st (fun a st => mv_pf sh M a (mv_x2 ax) (mv_x3 ax) v (fun sh M => K (pc + len) L st sh M c s)))
  | .iaload => mv_pI st (fun i st => mv_pA st (fun a st => mv_nums sh a (fun t n => (t = 0 ∧ vp_in i n) ∧ K (pc + len) L (.int (M a i.toNatClampNeg) :: st) sh M c s)))
  | .baload => mv_pI st (fun i st => mv_pA st (fun a st => mv_nums sh a (fun t n => ((t = 1 ∨ t = 2) ∧ vp_in i n) ∧ K (pc + len) L (.int (M a i.toNatClampNeg) :: st) sh M c s)))
  | .iastore => mv_pI st (fun x st => mv_pI st (fun i st => mv_pA st (fun a st => mv_nums sh a (fun t n => (t = 0 ∧ vp_in i n) ∧ K (pc + len) L st sh (mv_up M a i.toNatClampNeg x) c s))))
  | .bastore => mv_pI st (fun x st => mv_pI st (fun i st => mv_pA st (fun a st => mv_nums sh a (fun t n => ((t = 1 ∧ x.toInt8.toInt32 = x ∨ t = 2 ∧ (x = 0 ∨ x = 1)) ∧ vp_in i n) ∧ K (pc + len) L st sh (mv_up M a i.toNatClampNeg x) c s))))
  | .aaload => mv_pI st (fun i st => mv_pA st (fun a st => mv_refs sh a (fun t n g => (t = 3 ∧ vp_in i n) ∧ mv_some (g i.toNatClampNeg) (fun b => K (pc + len) L (.ref b :: st) sh M c s))))
  | .aastore => mv_pA st (fun b st => mv_pI st (fun i st => mv_pA st (fun a st => mv_refs sh a (fun t n g => (t = 3 ∧ vp_in i n ∧ mv_isO sh (some (.ref b)) 0) ∧ K (pc + len) L st (sh.set a (.inr (.inr (t, n, va_up g i.toNatClampNeg (some b))))) M c s))))
  | .arraylength => mv_alen K ax (pc + len) L st sh M c s
  | .new _ => (sh.length < 900 ∧ c + 1 ≤ lim.1 ∧ s + mv_x4 ax ≤ lim.2) ∧ (match DF[mv_x3 ax]? with
    | some fs => K (pc + len) L (.ref sh.length :: st) (sh ++ [.inr (.inl (mv_x3 ax, fs))]) (mv_wr M sh.length (fun _ => 0)) (c + 1) (s + mv_x4 ax)
    | none => False)
  | .newarray _ => mv_pI st (fun n st => (sh.length < 900 ∧ ¬ n < 0 ∧ n.toNatClampNeg ≤ 10000 ∧ c + 1 ≤ lim.1 ∧ s + n.toNatClampNeg ≤ lim.2) ∧ K (pc + len) L (.ref sh.length :: st) (sh ++ [.inl (mv_x1 ax, n.toNatClampNeg)]) (mv_wr M sh.length (fun _ => 0)) (c + 1) (s + n.toNatClampNeg))
  | .anewarray _ => mv_pI st (fun n st => (sh.length < 900 ∧ ¬ n < 0 ∧ n.toNatClampNeg ≤ 10000 ∧ c + 1 ≤ lim.1 ∧ s + n.toNatClampNeg ≤ lim.2) ∧ K (pc + len) L (.ref sh.length :: st) (sh ++ [.inr (.inr (3, n.toNatClampNeg, fun _ => none))]) (mv_wr M sh.length (fun _ => 0)) (c + 1) (s + n.toNatClampNeg))
  | .invokevirtual _ => mv_ivk S lim K ax pc L st sh M c s
  | .invokestatic _ => mv_ivk S lim K ax pc L st sh M c s
  | .invokespecial _ => mv_ivk S lim K ax pc L st sh M c s
  | .ireturn => mv_pR st (fun v => mv_nr (mv_x0 ax) v ∧ P (some (.int v)) sh M)
  | .areturn => mv_pQ st (fun v => P (some (.ref v)) sh M)
  | .return_ => mv_p0 st (P none sh M)
  | _ => False
def mv_stp (DF : mv_Cls) (cd : mv_Cd) (S : Nat → mv_Sp) (lim : Nat × Nat) (P : mv_Post) (K : mv_Kt) : mv_Kt := fun pc L st sh M c s => match mv_f cd pc with
  | some (i, len, ax) => mv_step DF S lim P K i len ax pc L st sh M c s
  | none => False
/-- from here the method comes to an end with P -/
def mv_R (DF : mv_Cls) (cd : mv_Cd) (S : Nat → mv_Sp) (lim : Nat × Nat) (P : mv_Post) : mv_Kt := fun pc L st sh M c s =>
  ∀ X : mv_Kt, (∀ (K : mv_Kt) pc L st sh M c s, (∀ pc L st sh M c s, K pc L st sh M c s → X pc L st sh M c s) → mv_stp DF cd S lim P K pc L st sh M c s → X pc L st sh M c s) → X pc L st sh M c s
theorem mv_R_fold {DF : mv_Cls} {cd : mv_Cd} {S : Nat → mv_Sp} {lim : Nat × Nat} {P : mv_Post} {pc : Nat} {L : mv_Loc} {st : List Value} {sh : mv_Shp} {M : mv_Mem} {c s : Nat}
    (h : mv_stp DF cd S lim P (mv_R DF cd S lim P) pc L st sh M c s) : mv_R DF cd S lim P pc L st sh M c s :=
  fun X hX => hX _ pc L st sh M c s (fun _ _ _ _ _ _ _ hk => hk X hX) h
